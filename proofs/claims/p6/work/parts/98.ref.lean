/-! the reference: what its methods do (printed by wip/gen/ref.py) -/
section RB
theorem sp_261 {n : Nat} {f : Nat → Int32} {d : Nat}  {σ : ra_V} (hw : WF σ) (hpw : PW σ) (hn0 : 0 ≤ ra_g σ 179 12 ∧ ra_g σ 179 12 ≤ 500) : ra_C (g_Gs n f) g_sh 0 (d + 9) 261 [.index (179)] σ (fun r s => rI r ∧ Fr (179) (189) σ s ∧ s (183) = σ (183) ∧ (∀ a, a ≠ 5 → a ≠ 6 → a ≠ 7 → a ≠ 12 → a ≠ 13 → a ≠ 14 → a ≠ 15 → a ≠ 16 → a ≠ 17 → a ≠ 18 → a ≠ 19 → a ≠ 20 → a ≠ 21 → ra_g s 179 a = ra_g σ 179 a) ∧ ra_g s 179 12 = 0 ∧ (ra_g s 179 6 ≠ 0 → ra_g σ 179 6 ≠ 0) ∧ WF s ∧ PW s) := by
  refine ra_enter (nn := 1) mt_261 rfl (Nat.le_of_ble_eq_true rfl) rfl (fun h => absurd h (by decide +kernel)) ?_
  refine ra_load rfl rfl rfl rfl ?_
  refine ra_iconst rfl ?_
  refine ra_putI rfl lk_8_51 (Nat.zero_le _) sh_179 rfl rfl ?_
  refine ra_newU (by first | omega | (unfold ra_in at *; omega)) (fun s1 hs1 hp2 hp2o => ?_)
  have hp2_12 := hp2o 12 (by decide)
  have hp2_17 := hp2o 17 (by decide)
  have hF3 := Fr_tr (lo := 179) (hi := 189) Fr_rf hs1 (by omega)
  have hk4 : s1 (183) = σ (183) := (hs1 (183) (by omega))
  have hk5 : s1 (184) = σ (184) := (hs1 (184) (by omega))
  refine ra_load rfl rfl rfl rfl ?_
  refine ra_getR rfl lk_8_7 (Nat.zero_le _) sh_179 rfl ?_
  refine ra_iconst rfl ?_
  refine ra_load rfl rfl rfl rfl ?_
  refine ra_getR rfl lk_8_13 (Nat.zero_le _) sh_179 rfl ?_
  refine ra_iconst rfl ?_
  refine ra_sipush rfl (by decide) ?_
  refine ra_cV (sp_194 sh_180 (by decide) (by first | omega | (unfold ra_in at *; omega)) sh_181 (by decide) (by first | omega | (unfold ra_in at *; omega)) (by first | omega | (unfold ra_in at *; omega)) (by first | assumption | rfl | omega) (by first | assumption | rfl | omega)) rfl (ct_194 rfl lk_8_57 (Or.inl rfl) (Nat.le_of_ble_eq_true rfl)) (fun s6 hs6 => ?_)
  obtain ⟨hf7, he8⟩ := hs6
  have hF9 := Fr_tr (lo := 179) (hi := 189) hF3 hf7 (by omega)
  have hk10 : s6 (183) = σ (183) := (hf7 (183) (by omega)).trans hk4
  have hk11 : s6 (184) = σ (184) := (hf7 (184) (by omega)).trans hk5
  have hk12 : s6 (179) = s1 (179) := (hf7 (179) (by omega))
  refine ra_load rfl rfl rfl rfl ?_
  refine ra_bipush rfl (by decide) ?_
  refine ra_cV (sp_195 (by first | omega | (unfold ra_in at *; omega)) (by first | assumption | rfl | omega)) rfl (ct_195 rfl lk_8_47 (Or.inl rfl) sh_179 (Nat.le_of_ble_eq_true rfl)) (fun s13 hs13 => ?_)
  obtain ⟨hf14, he15, he16⟩ := hs13
  have hF17 := Fr_tr (lo := 179) (hi := 189) hF9 hf14 (by omega)
  have hk18 : s13 (183) = σ (183) := (hf14 (183) (by omega)).trans hk10
  have hk19 : s13 (184) = σ (184) := (hf14 (184) (by omega)).trans hk11
  have hk20 : s13 (179) = s1 (179) := (hf14 (179) (by omega)).trans hk12
  have hl0 := LD_0 he15 he16
  have hl0b := hl0.2
  refine ra_load rfl rfl rfl rfl ?_
  refine ra_iconst rfl ?_
  refine ra_putI rfl lk_8_215 (Nat.zero_le _) sh_179 rfl rfl ?_
  refine ra_newU (by first | omega | (unfold ra_in at *; omega)) (fun s21 hs21 hp22 hp22o => ?_)
  have hp22_12 := hp22o 12 (by decide)
  rw [ra_gk hk20] at hp22_12
  have hp22_17 := hp22o 17 (by decide)
  rw [ra_gk hk20] at hp22_17
  have hF23 := Fr_tr (lo := 179) (hi := 189) hF17 hs21 (by omega)
  have hk24 : s21 (183) = σ (183) := (hs21 (183) (by omega)).trans hk18
  have hk25 : s21 (184) = σ (184) := (hs21 (184) (by omega)).trans hk19
  refine ra_load rfl rfl rfl rfl ?_
  refine ra_iconst rfl ?_
  refine ra_putI rfl lk_8_218 (Nat.zero_le _) sh_179 rfl rfl ?_
  refine ra_newU (by first | omega | (unfold ra_in at *; omega)) (fun s26 hs26 hp27 hp27o => ?_)
  have hp27_12 := hp27o 12 (by decide)
  have hp27_17 := hp27o 17 (by decide)
  have hF28 := Fr_tr (lo := 179) (hi := 189) hF23 hs26 (by omega)
  have hk29 : s26 (183) = σ (183) := (hs26 (183) (by omega)).trans hk24
  have hk30 : s26 (184) = σ (184) := (hs26 (184) (by omega)).trans hk25
  refine ra_load rfl rfl rfl rfl ?_
  refine ra_iconst rfl ?_
  refine ra_putI rfl lk_8_192 (Nat.zero_le _) sh_179 rfl rfl ?_
  refine ra_newU (by first | omega | (unfold ra_in at *; omega)) (fun s31 hs31 hp32 hp32o => ?_)
  have hp32_12 := hp32o 12 (by decide)
  have hF33 := Fr_tr (lo := 179) (hi := 189) hF28 hs31 (by omega)
  have hk34 : s31 (183) = σ (183) := (hs31 (183) (by omega)).trans hk29
  have hk35 : s31 (184) = σ (184) := (hs31 (184) (by omega)).trans hk30
  refine ra_load rfl rfl rfl rfl ?_
  refine ra_iconst rfl ?_
  refine ra_putI rfl lk_8_243 (Nat.zero_le _) sh_179 rfl rfl ?_
  refine ra_newU (by first | omega | (unfold ra_in at *; omega)) (fun s36 hs36 hp37 hp37o => ?_)
  have hp37_12 := hp37o 12 (by decide)
  have hp37_17 := hp37o 17 (by decide)
  have hF38 := Fr_tr (lo := 179) (hi := 189) hF33 hs36 (by omega)
  have hk39 : s36 (183) = σ (183) := (hs36 (183) (by omega)).trans hk34
  have hk40 : s36 (184) = σ (184) := (hs36 (184) (by omega)).trans hk35
  have q12 : ra_g s36 179 12 = ra_g σ 179 12 := ((hp37o 12 (by decide)).trans ((hp32o 12 (by decide)).trans ((hp27o 12 (by decide)).trans ((hp22o 12 (by decide)).trans ((ra_gk (hf14 179 (by omega))).trans ((ra_gk (hf7 179 (by omega))).trans (hp2o 12 (by decide))))))))
  have q17 : ra_g s36 179 17 = 0 := by omega
  refine ra_load rfl rfl rfl rfl ?_
  refine ra_cV (sp_249 (by omega)) rfl (ct_249 rfl lk_8_240 (Or.inl rfl) sh_179 (Nat.le_of_ble_eq_true rfl)) (fun s41 hs41 => ?_)
  obtain ⟨hf42, he43, he44, he45⟩ := hs41
  have hF46 := Fr_tr (lo := 179) (hi := 189) hF38 hf42 (by omega)
  have hk47 : s41 (183) = σ (183) := (hf42 (183) (by omega)).trans hk39
  have hk48 : s41 (184) = σ (184) := (hf42 (184) (by omega)).trans hk40
  refine ra_load rfl rfl rfl rfl ?_
  refine ra_cB (sp_260 he44 (LD_k ((hf42 180 (by omega)).trans ((hs36 180 (by omega)).trans ((hs31 180 (by omega)).trans ((hs26 180 (by omega)).trans (hs21 180 (by omega)))))) hl0.1) ((ra_gk ((hf42 180 (by omega)).trans ((hs36 180 (by omega)).trans ((hs31 180 (by omega)).trans ((hs26 180 (by omega)).trans (hs21 180 (by omega))))))).trans hl0b)) rfl (ct_260 rfl lk_8_288 (Or.inl rfl) sh_179 (Nat.le_of_ble_eq_true rfl)) (fun z50 s49  hz50 hs49 => ?_)
  obtain ⟨hf51, hc52, hc53, hc54, hc55, he56, he57, he58, he59⟩ := hs49
  have hF60 := Fr_tr (lo := 179) (hi := 189) hF46 hf51 (by omega)
  have hk61 : s49 (183) = σ (183) := hc54.trans hk47
  have hk62 : s49 (184) = σ (184) := hc55.trans hk48
  refine ra_store (L' := [_, _]) rfl rfl rfl (Nat.le_of_ble_eq_true rfl) rfl ?_
  refine ra_load rfl rfl rfl rfl ?_
  refine ra_iconst rfl ?_
  refine ra_putI rfl lk_8_186 (Nat.zero_le _) sh_179 rfl rfl ?_
  refine ra_newU (by first | omega | (unfold ra_in at *; omega)) (fun s63 hs63 hp64 hp64o => ?_)
  have hp64_17 := hp64o 17 (by decide)
  have hF65 := Fr_tr (lo := 179) (hi := 189) hF60 hs63 (by omega)
  have hk66 : s63 (183) = σ (183) := (hs63 (183) (by omega)).trans hk61
  have hk67 : s63 (184) = σ (184) := (hs63 (184) (by omega)).trans hk62
  refine ra_load rfl rfl rfl rfl ?_
  refine ra_load rfl rfl rfl rfl ?_
  refine ra_getI rfl lk_8_215 (Nat.zero_le _) sh_179 rfl ?_
  have hr68 : ra_in (ra_g s63 (179) 15) := (ra_in_g _ _ _)
  refine ra_putI rfl lk_8_291 (Nat.zero_le _) sh_179 rfl rfl ?_
  refine ra_newU hr68 (fun s69 hs69 hp70 hp70o => ?_)
  have hp70_12 := hp70o 12 (by decide)
  have hp70_17 := hp70o 17 (by decide)
  have hF71 := Fr_tr (lo := 179) (hi := 189) hF65 hs69 (by omega)
  have hk72 : s69 (183) = σ (183) := (hs69 (183) (by omega)).trans hk66
  have hk73 : s69 (184) = σ (184) := (hs69 (184) (by omega)).trans hk67
  refine ra_load rfl rfl rfl rfl ?_
  refine ra_load rfl rfl rfl rfl ?_
  refine ra_getI rfl lk_8_218 (Nat.zero_le _) sh_179 rfl ?_
  have hr74 : ra_in (ra_g s69 (179) 16) := (ra_in_g _ _ _)
  refine ra_putI rfl lk_8_34 (Nat.zero_le _) sh_179 rfl rfl ?_
  refine ra_newU hr74 (fun s75 hs75 hp76 hp76o => ?_)
  have hp76_12 := hp76o 12 (by decide)
  have hp76_17 := hp76o 17 (by decide)
  have hF77 := Fr_tr (lo := 179) (hi := 189) hF71 hs75 (by omega)
  have hk78 : s75 (183) = σ (183) := (hs75 (183) (by omega)).trans hk72
  have hk79 : s75 (184) = σ (184) := (hs75 (184) (by omega)).trans hk73
  refine ra_load rfl rfl rfl rfl ?_
  refine ra_ifne rfl rfl (ra_in01 hz50) (fun h80 => ?_) (fun h80 => ?_)
  · refine ra_load rfl rfl rfl rfl ?_
    refine ra_iconst rfl ?_
    refine ra_putI rfl lk_8_54 (Nat.zero_le _) sh_179 rfl rfl ?_
    refine ra_newU (by first | omega | (unfold ra_in at *; omega)) (fun s81 hs81 hp82 hp82o => ?_)
    have hp82_12 := hp82o 12 (by decide)
    have hp82_17 := hp82o 17 (by decide)
    have hF83 := Fr_tr (lo := 179) (hi := 189) hF77 hs81 (by omega)
    have hk84 : s81 (183) = σ (183) := (hs81 (183) (by omega)).trans hk78
    have hk85 : s81 (184) = σ (184) := (hs81 (184) (by omega)).trans hk79
    refine ra_load rfl rfl rfl rfl ?_
    refine ra_iconst rfl ?_
    refine ra_putB rfl lk_8_294 (Nat.zero_le _) sh_179 rfl rfl (Or.inl rfl) ?_
    refine ra_newU (ra_in01 (Or.inl rfl)) (fun s86 hs86 hp87 hp87o => ?_)
    have hp87_12 := hp87o 12 (by decide)
    have hp87_17 := hp87o 17 (by decide)
    have hF88 := Fr_tr (lo := 179) (hi := 189) hF83 hs86 (by omega)
    have hk89 : s86 (183) = σ (183) := (hs86 (183) (by omega)).trans hk84
    have hk90 : s86 (184) = σ (184) := (hs86 (184) (by omega)).trans hk85
    refine ra_load rfl rfl rfl rfl ?_
    refine ra_cIPp (sp_202 (LD_k ((hs86 180 (by omega)).trans ((hs81 180 (by omega)).trans ((hs75 180 (by omega)).trans ((hs69 180 (by omega)).trans (hs63 180 (by omega)))))) he57).1) rfl (ct_202 rfl lk_8_298 (Or.inl rfl) sh_179 (Nat.le_of_ble_eq_true rfl)) (fun z92 hz92 hz92p => ?_)
    exact ra_ireturn rfl rfl ⟨⟨_, hz92, rfl⟩, ⟨hF88, hk89, (fun a h5 h6 h7 h12 h13 h14 h15 h16 h17 h18 h19 h20 h21 => ((hp87o a (by assumption)).trans ((hp82o a (by assumption)).trans ((hp76o a (by assumption)).trans ((hp70o a (by assumption)).trans ((hp64o a (by assumption)).trans ((he56 a h15 h16 h17 h18 h19 h20 h21).trans ((he43 a h17 h18 h19 h20).trans ((hp37o a (by assumption)).trans ((hp32o a (by assumption)).trans ((hp27o a (by assumption)).trans ((hp22o a (by assumption)).trans ((ra_gk (hf14 179 (by omega))).trans ((ra_gk (hf7 179 (by omega))).trans (hp2o a (by assumption)))))))))))))))), (((hp87o 12 (by decide)).trans ((hp82o 12 (by decide)).trans ((hp76o 12 (by decide)).trans (hp70o 12 (by decide))))).trans hp64), (fun q => absurd hp87 q), (LD_k ((hs86 180 (by omega)).trans ((hs81 180 (by omega)).trans ((hs75 180 (by omega)).trans ((hs69 180 (by omega)).trans (hs63 180 (by omega)))))) he57).1, (pw_0 ((hp87o 5 (by decide)).trans hp82))⟩⟩
  · refine ra_load rfl rfl rfl rfl ?_
    refine ra_getR rfl lk_8_13 (Nat.zero_le _) sh_179 rfl ?_
    refine ra_iconst rfl ?_
    refine ra_load rfl rfl rfl rfl ?_
    refine ra_getR rfl lk_8_7 (Nat.zero_le _) sh_179 rfl ?_
    refine ra_iconst rfl ?_
    refine ra_sipush rfl (by decide) ?_
    refine ra_cV (sp_194 sh_181 (by decide) (by first | omega | (unfold ra_in at *; omega)) sh_180 (by decide) (by first | omega | (unfold ra_in at *; omega)) (by first | omega | (unfold ra_in at *; omega)) (by first | assumption | rfl | omega) (by first | assumption | rfl | omega)) rfl (ct_194 rfl lk_8_57 (Or.inl rfl) (Nat.le_of_ble_eq_true rfl)) (fun s93 hs93 => ?_)
    obtain ⟨hf94, he95⟩ := hs93
    have hF96 := Fr_tr (lo := 179) (hi := 189) hF77 hf94 (by omega)
    have hk97 : s93 (183) = σ (183) := (hf94 (183) (by omega)).trans hk78
    have hk98 : s93 (184) = σ (184) := (hf94 (184) (by omega)).trans hk79
    have hk99 : s93 (179) = s75 (179) := (hf94 (179) (by omega))
    refine ra_iconst rfl ?_
    exact ra_ireturn rfl rfl ⟨⟨_, (by first | omega | (unfold ra_in at *; omega)), rfl⟩, ⟨hF96, hk97, (fun a h5 h6 h7 h12 h13 h14 h15 h16 h17 h18 h19 h20 h21 => ((ra_gk (hf94 179 (by omega))).trans ((hp76o a (by assumption)).trans ((hp70o a (by assumption)).trans ((hp64o a (by assumption)).trans ((he56 a h15 h16 h17 h18 h19 h20 h21).trans ((he43 a h17 h18 h19 h20).trans ((hp37o a (by assumption)).trans ((hp32o a (by assumption)).trans ((hp27o a (by assumption)).trans ((hp22o a (by assumption)).trans ((ra_gk (hf14 179 (by omega))).trans ((ra_gk (hf7 179 (by omega))).trans (hp2o a (by assumption))))))))))))))), (((ra_gk (hf94 179 (by omega))).trans ((hp76o 12 (by decide)).trans (hp70o 12 (by decide)))).trans hp64), (fun q => by have e := ((ra_gk (hf94 179 (by omega))).trans ((hp76o 6 (by decide)).trans ((hp70o 6 (by decide)).trans ((hp64o 6 (by decide)).trans ((he56 6 (by decide) (by decide) (by decide) (by decide) (by decide) (by decide) (by decide)).trans ((he43 6 (by decide) (by decide) (by decide) (by decide)).trans ((hp37o 6 (by decide)).trans ((hp32o 6 (by decide)).trans ((hp27o 6 (by decide)).trans ((hp22o 6 (by decide)).trans ((ra_gk (hf14 179 (by omega))).trans ((ra_gk (hf7 179 (by omega))).trans (hp2o 6 (by decide)))))))))))))); omega), (kp_w hw (hs1 180 (by omega)) he8 ((hs75 181 (by omega)).trans ((hs69 181 (by omega)).trans ((hs63 181 (by omega)).trans (hc52.trans ((hf42 181 (by omega)).trans ((hs36 181 (by omega)).trans ((hs31 181 (by omega)).trans ((hs26 181 (by omega)).trans ((hs21 181 (by omega)).trans (hf14 181 (by omega))))))))))) he95), (PW_k hpw ((ra_gk (hf94 179 (by omega))).trans ((hp76o 5 (by decide)).trans ((hp70o 5 (by decide)).trans ((hp64o 5 (by decide)).trans ((he56 5 (by decide) (by decide) (by decide) (by decide) (by decide) (by decide) (by decide)).trans ((he43 5 (by decide) (by decide) (by decide) (by decide)).trans ((hp37o 5 (by decide)).trans ((hp32o 5 (by decide)).trans ((hp27o 5 (by decide)).trans ((hp22o 5 (by decide)).trans ((ra_gk (hf14 179 (by omega))).trans ((ra_gk (hf7 179 (by omega))).trans (hp2o 5 (by decide)))))))))))))) hk98)⟩⟩
end RB
