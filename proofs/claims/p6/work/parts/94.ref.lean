/-! the reference: what its methods do (printed by wip/gen/ref.py) -/
section RB
theorem sp_254 {n : Nat} {f : Nat → Int32} {d : Nat} {x0 : Int} {x1 : Int} {x2 : Int} {σ : ra_V} (hx0 : ra_in x0) (hx1 : ra_in x1) (hx2 : ra_in x2) (hpt : 0 ≤ ra_g σ 179 18 ∧ ra_g σ 179 18 ≤ ra_g σ 179 17 ∧ ra_g σ 179 17 ≤ ra_g σ 179 12 ∧ ra_g σ 179 12 ≤ 500 ∧ 0 ≤ ra_g σ 179 19 ∧ ra_g σ 179 19 ≤ 999) (hat : 0 ≤ x0 ∧ x0 < 4) : ra_C (g_Gs n f) g_sh 0 (d + 3) 254 [.index (179), ra_I x0, ra_I x1, ra_I x2] σ (fun r s => (∃ z : Int, (z = 0 ∨ z = 1) ∧ (z = 1 → (x1 ≤ ra_g s 188 x0.toNat ∧ ra_g s 188 x0.toNat ≤ x2 ∧ ra_g s 188 x0.toNat = ra_g σ 179 19 ∧ (ra_g s 179 20 = 3 → ra_g σ 179 17 < ra_g s 179 17))) ∧ r = .inl (some (ra_I z))) ∧ Fr (179) (189) σ s ∧ s (180) = σ (180) ∧ s (181) = σ (181) ∧ s (182) = σ (182) ∧ s (183) = σ (183) ∧ s (184) = σ (184) ∧ (∀ a, a ≠ 15 → a ≠ 16 → a ≠ 17 → a ≠ 18 → a ≠ 19 → a ≠ 20 → ra_g s 179 a = ra_g σ 179 a) ∧ (∀ a, a ≠ x0.toNat → ra_g s 188 a = ra_g σ 188 a) ∧ (0 ≤ ra_g s 179 18 ∧ ra_g s 179 18 ≤ ra_g s 179 17 ∧ ra_g s 179 17 ≤ ra_g s 179 12 ∧ ra_g s 179 12 ≤ 500 ∧ 0 ≤ ra_g s 179 19 ∧ ra_g s 179 19 ≤ 999) ∧ ra_g σ 179 17 ≤ ra_g s 179 17) := by
  refine ra_enter (nn := 0) mt_254 rfl (Nat.le_of_ble_eq_true rfl) rfl (fun h => absurd h (by decide +kernel)) ?_
  refine ra_load rfl rfl rfl rfl ?_
  refine ra_load rfl rfl rfl rfl ?_
  refine ra_load rfl rfl rfl rfl ?_
  refine ra_cQP (sp_253 hx1 hx2 (by first | assumption | rfl | omega)) rfl (ct_253 rfl lk_8_236 (Or.inl rfl) sh_179 (Nat.le_of_ble_eq_true rfl)) (fun z2 s1 hz2 hz2p hs1 => ?_)
  obtain ⟨hf3, he4⟩ := hs1
  have hF5 := Fr_tr (lo := 179) (hi := 189) Fr_rf hf3 (by omega)
  have hk6 : s1 (180) = σ (180) := (hf3 (180) (by omega))
  have hk7 : s1 (181) = σ (181) := (hf3 (181) (by omega))
  have hk8 : s1 (182) = σ (182) := (hf3 (182) (by omega))
  have hk9 : s1 (183) = σ (183) := (hf3 (183) (by omega))
  have hk10 : s1 (184) = σ (184) := (hf3 (184) (by omega))
  refine ra_ifne rfl rfl (ra_in01 hz2) (fun h11 => ?_) (fun h11 => ?_)
  · refine ra_load rfl rfl rfl rfl ?_
    refine ra_getR rfl lk_8_38 (Nat.zero_le _) sh_179 rfl ?_
    refine ra_load rfl rfl rfl rfl ?_
    refine ra_load rfl rfl rfl rfl ?_
    refine ra_getI rfl lk_8_201 (Nat.zero_le _) sh_179 rfl ?_
    have hr12 : ra_in (ra_g s1 (179) 19) := (ra_in_g _ _ _)
    refine ra_iastore rfl sh_188 rfl (by decide) (by first | omega | (unfold ra_in at *; omega)) (by first | omega | (unfold ra_in at *; omega)) ?_
    refine ra_newR hr12 (fun s13 hs13 hs13v hs13o => ?_)
    have hF14 := Fr_tr (lo := 179) (hi := 189) hF5 hs13 (by omega)
    have hk15 : s13 (180) = σ (180) := (hs13 (180) (by omega)).trans hk6
    have hk16 : s13 (181) = σ (181) := (hs13 (181) (by omega)).trans hk7
    have hk17 : s13 (182) = σ (182) := (hs13 (182) (by omega)).trans hk8
    have hk18 : s13 (183) = σ (183) := (hs13 (183) (by omega)).trans hk9
    have hk19 : s13 (184) = σ (184) := (hs13 (184) (by omega)).trans hk10
    refine ra_load rfl rfl rfl rfl ?_
    refine ra_cV (sp_249 (by have q := (pt_e (ra_gk (hs13 179 (by omega))) (ra_gk (hs13 179 (by omega))) (ra_gk (hs13 179 (by omega))) (ra_gk (hs13 179 (by omega))) (pt_e (he4 12 (by decide) (by decide)) (he4 17 (by decide) (by decide)) (he4 18 (by decide) (by decide)) (he4 19 (by decide) (by decide)) hpt)); omega)) rfl (ct_249 rfl lk_8_240 (Or.inl rfl) sh_179 (Nat.le_of_ble_eq_true rfl)) (fun s20 hs20 => ?_)
    obtain ⟨hf21, he22, he23, he24⟩ := hs20
    have hF25 := Fr_tr (lo := 179) (hi := 189) hF14 hf21 (by omega)
    have hk26 : s20 (180) = σ (180) := (hf21 (180) (by omega)).trans hk15
    have hk27 : s20 (181) = σ (181) := (hf21 (181) (by omega)).trans hk16
    have hk28 : s20 (182) = σ (182) := (hf21 (182) (by omega)).trans hk17
    have hk29 : s20 (183) = σ (183) := (hf21 (183) (by omega)).trans hk18
    have hk30 : s20 (184) = σ (184) := (hf21 (184) (by omega)).trans hk19
    refine ra_iconst rfl ?_
    exact ra_ireturn rfl (ra_okB (Or.inr rfl)) ⟨⟨_, (Or.inr rfl), (fun _ => by have m_s1 : ra_g s1 179 17 = ra_g σ 179 17 := (he4 17 (by decide) (by decide)); have k_s1 : ra_g s1 179 20 = ra_g σ 179 20 := (he4 20 (by decide) (by decide)); have m_s13 : ra_g s13 179 17 = ra_g s1 179 17 := (ra_gk (hs13 179 (by omega))); have k_s13 : ra_g s13 179 20 = ra_g s1 179 20 := (ra_gk (hs13 179 (by omega))); have m_s20 := he24.1; have m_a := he24.2; have a1 := he4 19 (by decide) (by decide); have a2 : ra_g s20 188 x0.toNat = ra_g s13 188 x0.toNat := ra_gk (hf21 188 (by omega)); have a3 := hs13v; have a4 := hz2p (by omega); exact ⟨by omega, by omega, by omega, fun q => by have := m_a q; omega⟩), rfl⟩, ⟨hF25, hk26, hk27, hk28, hk29, hk30, (fun a h15 h16 h17 h18 h19 h20 => ((he22 a h17 h18 h19 h20).trans ((ra_gk (hs13 179 (by omega))).trans (he4 a h15 h16)))), (fun a h => (ra_gk (hf21 188 (by omega))).trans ((hs13o a h).trans (ra_gk (hf3 188 (by omega))))), he23, (by have m_s1 : ra_g s1 179 17 = ra_g σ 179 17 := (he4 17 (by decide) (by decide)); have k_s1 : ra_g s1 179 20 = ra_g σ 179 20 := (he4 20 (by decide) (by decide)); have m_s13 : ra_g s13 179 17 = ra_g s1 179 17 := (ra_gk (hs13 179 (by omega))); have k_s13 : ra_g s13 179 20 = ra_g s1 179 20 := (ra_gk (hs13 179 (by omega))); have m_s20 := he24.1; omega)⟩⟩
  · refine ra_iconst rfl ?_
    exact ra_ireturn rfl (ra_okB (Or.inl rfl)) ⟨⟨_, (Or.inl rfl), (fun q => absurd q (by decide)), rfl⟩, ⟨hF5, hk6, hk7, hk8, hk9, hk10, (fun a h15 h16 h17 h18 h19 h20 => (he4 a h15 h16)), (fun a h => ra_gk (hf3 188 (by omega))), (pt_e (he4 12 (by decide) (by decide)) (he4 17 (by decide) (by decide)) (he4 18 (by decide) (by decide)) (he4 19 (by decide) (by decide)) hpt), (by have m_s1 : ra_g s1 179 17 = ra_g σ 179 17 := (he4 17 (by decide) (by decide)); have k_s1 : ra_g s1 179 20 = ra_g σ 179 20 := (he4 20 (by decide) (by decide)); omega)⟩⟩
theorem sp_259 {n : Nat} {f : Nat → Int32} {d : Nat}  {σ : ra_V} (hpt : 0 ≤ ra_g σ 179 18 ∧ ra_g σ 179 18 ≤ ra_g σ 179 17 ∧ ra_g σ 179 17 ≤ ra_g σ 179 12 ∧ ra_g σ 179 12 ≤ 500 ∧ 0 ≤ ra_g σ 179 19 ∧ ra_g σ 179 19 ≤ 999) : ra_C (g_Gs n f) g_sh 0 (d + 3) 259 [.index (179)] σ (fun r s => (∃ z : Int, (z = 0 ∨ z = 1) ∧ (z = 1 → ra_g σ 179 20 = 3) ∧ r = .inl (some (ra_I z))) ∧ Fr (179) (180) σ s ∧ (∀ a, a ≠ 15 → a ≠ 16 → a ≠ 17 → a ≠ 18 → a ≠ 19 → a ≠ 20 → ra_g s 179 a = ra_g σ 179 a) ∧ (0 ≤ ra_g s 179 18 ∧ ra_g s 179 18 ≤ ra_g s 179 17 ∧ ra_g s 179 17 ≤ ra_g s 179 12 ∧ ra_g s 179 12 ≤ 500 ∧ 0 ≤ ra_g s 179 19 ∧ ra_g s 179 19 ≤ 999) ∧ ra_g σ 179 17 ≤ ra_g s 179 17) := by
  refine ra_enter (nn := 0) mt_259 rfl (Nat.le_of_ble_eq_true rfl) rfl (fun h => absurd h (by decide +kernel)) ?_
  refine ra_load rfl rfl rfl rfl ?_
  refine ra_getI rfl lk_8_204 (Nat.zero_le _) sh_179 rfl ?_
  have hr1 : ra_in (ra_g σ (179) 20) := (ra_in_g _ _ _)
  refine ra_iconst rfl ?_
  refine ra_iceq rfl rfl hr1 (by first | omega | (unfold ra_in at *; omega)) (fun h2 => ?_) (fun h2 => ?_)
  · refine ra_load rfl rfl rfl rfl ?_
    refine ra_cV (sp_249 (by omega)) rfl (ct_249 rfl lk_8_240 (Or.inl rfl) sh_179 (Nat.le_of_ble_eq_true rfl)) (fun s3 hs3 => ?_)
    obtain ⟨hf4, he5, he6, he7⟩ := hs3
    have hF8 := Fr_tr (lo := 179) (hi := 180) Fr_rf hf4 (by omega)
    refine ra_iconst rfl ?_
    exact ra_ireturn rfl (ra_okB (Or.inr rfl)) ⟨⟨_, (Or.inr rfl), (fun q => by omega), rfl⟩, ⟨hF8, (fun a h15 h16 h17 h18 h19 h20 => (he5 a h17 h18 h19 h20)), he6, (by have m_s3 := he7.1; omega)⟩⟩
  · refine ra_load rfl rfl rfl rfl ?_
    refine ra_iconst rfl ?_
    refine ra_cQP (sp_251 (by first | omega | (unfold ra_in at *; omega))) rfl (ct_251 rfl lk_8_233 (Or.inl rfl) sh_179 (Nat.le_of_ble_eq_true rfl)) (fun z10 s9 hz10 hz10p hs9 => ?_)
    obtain ⟨hf11, he12⟩ := hs9
    have hF13 := Fr_tr (lo := 179) (hi := 180) Fr_rf hf11 (by omega)
    exact ra_ireturn rfl (ra_okB hz10) ⟨⟨_, hz10, (fun q => by omega), rfl⟩, ⟨hF13, (fun a h15 h16 h17 h18 h19 h20 => (he12 a h15 h16)), (pt_e (he12 12 (by decide) (by decide)) (he12 17 (by decide) (by decide)) (he12 18 (by decide) (by decide)) (he12 19 (by decide) (by decide)) hpt), (by have m_s9 : ra_g s9 179 17 = ra_g σ 179 17 := (he12 17 (by decide) (by decide)); have k_s9 : ra_g s9 179 20 = ra_g σ 179 20 := (he12 20 (by decide) (by decide)); omega)⟩⟩
end RB
