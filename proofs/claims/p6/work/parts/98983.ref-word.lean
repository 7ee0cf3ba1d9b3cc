/-! T4: what the reference's methods that read a text do (printed by wip/gen/r4.py) -/
section
variable {B : Nat → Int} {bn ps ta ti : Nat} {r : Nat → Int}
theorem s4_251 {n : Nat} {f : Nat → Int32} {d : Nat} {x0 : Int} {σ : ra_V} (hx0 : ra_in x0) : ra_C (g_Gs n f) g_sh 0 (d + 1) 251 [.index (179), ra_I x0] σ (fun r9 s => (∃ z : Int, (z = 0 ∨ z = 1) ∧ (z = 0) ∧ r9 = .inl (some (ra_I z))) ∧ Fr (179) (180) σ s ∧ (∀ a, a ≠ 15 → a ≠ 16 → ra_g s 179 a = ra_g σ 179 a) ∧ (ra_g σ 179 15 = 0 → ra_g s 179 15 = x0 ∧ ra_g s 179 16 = ra_g σ 179 18)) := by
  refine ra_enter (nn := 0) mt_251 rfl (Nat.le_of_ble_eq_true rfl) rfl (fun h => absurd h (by decide +kernel)) ?_
  refine ra_load rfl rfl rfl rfl ?_
  refine ra_getI rfl lk_8_215 (Nat.zero_le _) sh_179 rfl ?_
  have hr1 : ra_in (ra_g σ (179) 15) := (ra_in_g _ _ _)
  refine ra_ifne rfl rfl hr1 (fun h2 => ?_) (fun h2 => ?_)
  · refine ra_iconst rfl ?_
    exact ra_ireturn rfl (ra_okB (Or.inl rfl)) ⟨⟨_, (Or.inl rfl), rfl, rfl⟩, ⟨Fr_rf, (fun a h15 h16 => rfl), fun q => by omega⟩⟩
  · refine ra_load rfl rfl rfl rfl ?_
    refine ra_load rfl rfl rfl rfl ?_
    refine ra_putI rfl lk_8_215 (Nat.zero_le _) sh_179 rfl rfl ?_
    refine ra_newU hx0 (fun s3 hs3 hp4 hp4o => ?_)
    have hp4_16 := hp4o 16 (by decide)
    have hp4_18 := hp4o 18 (by decide)
    have hF5 := Fr_tr (lo := 179) (hi := 180) Fr_rf hs3 (by omega)
    refine ra_load rfl rfl rfl rfl ?_
    refine ra_load rfl rfl rfl rfl ?_
    refine ra_getI rfl lk_8_198 (Nat.zero_le _) sh_179 rfl ?_
    have hr6 : ra_in (ra_g s3 (179) 18) := (ra_in_g _ _ _)
    refine ra_putI rfl lk_8_218 (Nat.zero_le _) sh_179 rfl rfl ?_
    refine ra_newU hr6 (fun s7 hs7 hp8 hp8o => ?_)
    have hp8_15 := hp8o 15 (by decide)
    have hp8_18 := hp8o 18 (by decide)
    have hF9 := Fr_tr (lo := 179) (hi := 180) hF5 hs7 (by omega)
    refine ra_iconst rfl ?_
    exact ra_ireturn rfl (ra_okB (Or.inl rfl)) ⟨⟨_, (Or.inl rfl), rfl, rfl⟩, ⟨hF9, (fun a h15 h16 => ((hp8o a h16).trans (hp4o a h15))), fun q => by omega⟩⟩
theorem s4_253 {n : Nat} {f : Nat → Int32} {d : Nat} {x0 : Int} {x1 : Int} {σ : ra_V} (hx0 : ra_in x0) (hx1 : ra_in x1) (hpi : 0 ≤ ra_g σ 179 18 ∧ ra_g σ 179 18 ≤ ra_g σ 179 17 ∧ ra_g σ 179 17 ≤ ra_g σ 179 12 ∧ ra_g σ 179 12 ≤ 500) (hK : x4RTK B bn σ (tx_a B bn ti)) (he0 : ra_g σ 179 15 = 0) : ra_C (g_Gs n f) g_sh 0 (d + 2) 253 [.index (179), ra_I x0, ra_I x1] σ (fun r9 s => (∃ z : Int, (z = 0 ∨ z = 1) ∧ ((z = 1 → (x0 ≤ ra_g σ 179 19 ∧ ra_g σ 179 19 ≤ x1)) ∧ x4RNM B bn σ s z ti x0 x1) ∧ r9 = .inl (some (ra_I z))) ∧ Fr (179) (180) σ s ∧ (∀ a, a ≠ 15 → a ≠ 16 → ra_g s 179 a = ra_g σ 179 a)) := by
  refine ra_enter (nn := 0) mt_253 rfl (Nat.le_of_ble_eq_true rfl) rfl (fun h => absurd h (by decide +kernel)) ?_
  refine ra_load rfl rfl rfl rfl ?_
  refine ra_getI rfl lk_8_204 (Nat.zero_le _) sh_179 rfl ?_
  have hr1 : ra_in (ra_g σ (179) 20) := (ra_in_g _ _ _)
  refine ra_iconst rfl ?_
  refine ra_icne rfl rfl hr1 (by first | omega | (unfold ra_in at *; omega)) (fun h2 => ?_) (fun h2 => ?_)
  · refine ra_load rfl rfl rfl rfl ?_
    refine ra_iconst rfl ?_
    refine ra_cQP (s4_251 (by first | omega | (unfold ra_in at *; omega))) rfl (ct_251 rfl lk_8_233 (Or.inl rfl) sh_179 (Nat.le_of_ble_eq_true rfl)) (fun z4 s3 hz4 hz4p hs3 => ?_)
    obtain ⟨hf5, he6, he7⟩ := hs3
    have hF8 := Fr_tr (lo := 179) (hi := 180) Fr_rf hf5 (by omega)
    exact ra_ireturn rfl (ra_okB hz4) ⟨⟨_, hz4, ⟨(fun q => by omega), (by first | (exfalso; omega) | exact x4rn_1 hK (by omega) (by omega) (by have q := he7 he0; omega) | exact x4rn_2 hK (by omega) (by omega) (by omega) (by have q := he7 he0; omega))⟩, rfl⟩, ⟨hF8, he6⟩⟩
  · refine ra_load rfl rfl rfl rfl ?_
    refine ra_cTp (sp_250 (by first | assumption | rfl | omega)) rfl (ct_250 rfl lk_8_221 (Or.inl rfl) sh_179 (Nat.le_of_ble_eq_true rfl)) ?_
    have hr10 : ra_in (ra_g σ 179 17 - ra_g σ 179 18) := (by unfold ra_in; omega)
    refine ra_iconst rfl ?_
    refine ra_icle rfl rfl hr10 (by first | omega | (unfold ra_in at *; omega)) (fun h11 => ?_) (fun h11 => ?_)
    · refine ra_load rfl rfl rfl rfl ?_
      refine ra_getI rfl lk_8_201 (Nat.zero_le _) sh_179 rfl ?_
      have hr12 : ra_in (ra_g σ (179) 19) := (ra_in_g _ _ _)
      refine ra_i2l rfl hr12 ?_
      refine ra_load rfl rfl rfl rfl ?_
      refine ra_i2l rfl hx0 ?_
      refine ra_load rfl rfl rfl rfl ?_
      refine ra_i2l rfl hx1 ?_
      refine ra_cTp (sp_192 hr12 hx0 hx1) rfl (ct_192 rfl lk_8_63 (Or.inl rfl) (Nat.le_of_ble_eq_true rfl)) ?_
      refine ra_ifneB rfl rfl (fun h14 => ?_) (fun h14 => ?_)
      · refine ra_iconst rfl ?_
        refine ra_goto rfl rfl ?_
        exact ra_ireturn rfl (ra_okB (Or.inr rfl)) ⟨⟨_, (Or.inr rfl), ⟨(fun q => by omega), (x4rn_y hK (by omega) (by omega) rfl ⟨he0, rfl⟩)⟩, rfl⟩, ⟨Fr_rf, (fun _ _ _ => rfl)⟩⟩
      · refine ra_load rfl rfl rfl rfl ?_
        refine ra_iconst rfl ?_
        refine ra_cQP (s4_251 (by first | omega | (unfold ra_in at *; omega))) rfl (ct_251 rfl lk_8_233 (Or.inl rfl) sh_179 (Nat.le_of_ble_eq_true rfl)) (fun z16 s15 hz16 hz16p hs15 => ?_)
        obtain ⟨hf17, he18, he19⟩ := hs15
        have hF20 := Fr_tr (lo := 179) (hi := 180) Fr_rf hf17 (by omega)
        refine ra_ifeq rfl rfl (ra_in01 hz16) (fun h21 => ?_) (fun h21 => ?_)
        · refine ra_iconst rfl ?_
          exact ra_ireturn rfl (ra_okB (Or.inl rfl)) ⟨⟨_, (Or.inl rfl), ⟨(fun q => by omega), (by first | (exfalso; omega) | exact x4rn_1 hK (by omega) (by omega) (by have q := he19 he0; omega) | exact x4rn_2 hK (by omega) (by omega) (by omega) (by have q := he19 he0; omega))⟩, rfl⟩, ⟨hF20, he18⟩⟩
        · refine ra_iconst rfl ?_
          refine ra_goto rfl rfl ?_
          exact ra_ireturn rfl (ra_okB (Or.inr rfl)) ⟨⟨_, (Or.inr rfl), ⟨(fun q => by omega), (by first | (exfalso; omega) | exact x4rn_1 hK (by omega) (by omega) (by have q := he19 he0; omega) | exact x4rn_2 hK (by omega) (by omega) (by omega) (by have q := he19 he0; omega))⟩, rfl⟩, ⟨hF20, he18⟩⟩
    · refine ra_load rfl rfl rfl rfl ?_
      refine ra_iconst rfl ?_
      refine ra_cQP (s4_251 (by first | omega | (unfold ra_in at *; omega))) rfl (ct_251 rfl lk_8_233 (Or.inl rfl) sh_179 (Nat.le_of_ble_eq_true rfl)) (fun z23 s22 hz23 hz23p hs22 => ?_)
      obtain ⟨hf24, he25, he26⟩ := hs22
      have hF27 := Fr_tr (lo := 179) (hi := 180) Fr_rf hf24 (by omega)
      exact ra_ireturn rfl (ra_okB hz23) ⟨⟨_, hz23, ⟨(fun q => by omega), (by first | (exfalso; omega) | exact x4rn_1 hK (by omega) (by omega) (by have q := he26 he0; omega) | exact x4rn_2 hK (by omega) (by omega) (by omega) (by have q := he26 he0; omega))⟩, rfl⟩, ⟨hF27, he25⟩⟩
theorem s4_254 {n : Nat} {f : Nat → Int32} {d : Nat} {x0 : Int} {x1 : Int} {x2 : Int} {σ : ra_V} (hx0 : ra_in x0) (hx1 : ra_in x1) (hx2 : ra_in x2) (hpt : 0 ≤ ra_g σ 179 18 ∧ ra_g σ 179 18 ≤ ra_g σ 179 17 ∧ ra_g σ 179 17 ≤ ra_g σ 179 12 ∧ ra_g σ 179 12 ≤ 500 ∧ 0 ≤ ra_g σ 179 19 ∧ ra_g σ 179 19 ≤ 999) (hat : 0 ≤ x0 ∧ x0 < 4) (hB : x4TR σ B bn) (hK : x4RTK B bn σ (tx_a B bn ti)) (he0 : ra_g σ 179 15 = 0) : ra_C (g_Gs n f) g_sh 0 (d + 3) 254 [.index (179), ra_I x0, ra_I x1, ra_I x2] σ (fun r9 s => (∃ z : Int, (z = 0 ∨ z = 1) ∧ ((z = 1 → (x1 ≤ ra_g s 188 x0.toNat ∧ ra_g s 188 x0.toNat ≤ x2 ∧ ra_g s 188 x0.toNat = ra_g σ 179 19 ∧ (ra_g s 179 20 = 3 → ra_g σ 179 17 < ra_g s 179 17))) ∧ x4RTA B bn σ s z ti x0.toNat x1 x2) ∧ r9 = .inl (some (ra_I z))) ∧ Fr (179) (189) σ s ∧ s (180) = σ (180) ∧ s (181) = σ (181) ∧ s (182) = σ (182) ∧ s (183) = σ (183) ∧ s (184) = σ (184) ∧ (∀ a, a ≠ 15 → a ≠ 16 → a ≠ 17 → a ≠ 18 → a ≠ 19 → a ≠ 20 → ra_g s 179 a = ra_g σ 179 a) ∧ (∀ a, a ≠ x0.toNat → ra_g s 188 a = ra_g σ 188 a) ∧ (0 ≤ ra_g s 179 18 ∧ ra_g s 179 18 ≤ ra_g s 179 17 ∧ ra_g s 179 17 ≤ ra_g s 179 12 ∧ ra_g s 179 12 ≤ 500 ∧ 0 ≤ ra_g s 179 19 ∧ ra_g s 179 19 ≤ 999) ∧ ra_g σ 179 17 ≤ ra_g s 179 17 ∧ s (187) = σ (187)) := by
  refine ra_enter (nn := 0) mt_254 rfl (Nat.le_of_ble_eq_true rfl) rfl (fun h => absurd h (by decide +kernel)) ?_
  refine ra_load rfl rfl rfl rfl ?_
  refine ra_load rfl rfl rfl rfl ?_
  refine ra_load rfl rfl rfl rfl ?_
  refine ra_cQPs (s4_253 hx1 hx2 (by first | assumption | rfl | omega) (by first | assumption | rfl | omega) (by first | assumption | rfl | omega)) rfl (ct_253 rfl lk_8_236 (Or.inl rfl) sh_179 (Nat.le_of_ble_eq_true rfl)) (fun z2 s1 hz2 hz2p hs1 => ?_)
  have hz2o := hz2p.1
  have hz2q := hz2p.2
  obtain ⟨hf3, he4⟩ := hs1
  have hF5 := Fr_tr (lo := 179) (hi := 189) Fr_rf hf3 (by omega)
  have hk6 : s1 (180) = σ (180) := (hf3 (180) (by omega))
  have hk7 : s1 (181) = σ (181) := (hf3 (181) (by omega))
  have hk8 : s1 (182) = σ (182) := (hf3 (182) (by omega))
  have hk9 : s1 (183) = σ (183) := (hf3 (183) (by omega))
  have hk10 : s1 (184) = σ (184) := (hf3 (184) (by omega))
  have hk11 : s1 (187) = σ (187) := (hf3 (187) (by omega))
  refine ra_ifne rfl rfl (ra_in01 hz2) (fun h12 => ?_) (fun h12 => ?_)
  · refine ra_load rfl rfl rfl rfl ?_
    refine ra_getR rfl lk_8_38 (Nat.zero_le _) sh_179 rfl ?_
    refine ra_load rfl rfl rfl rfl ?_
    refine ra_load rfl rfl rfl rfl ?_
    refine ra_getI rfl lk_8_201 (Nat.zero_le _) sh_179 rfl ?_
    have hr13 : ra_in (ra_g s1 (179) 19) := (ra_in_g _ _ _)
    refine ra_iastore rfl sh_188 rfl (by decide) (by first | omega | (unfold ra_in at *; omega)) (by first | omega | (unfold ra_in at *; omega)) ?_
    refine ra_newR hr13 (fun s14 hs14 hs14v hs14o => ?_)
    have hF15 := Fr_tr (lo := 179) (hi := 189) hF5 hs14 (by omega)
    have hk16 : s14 (180) = σ (180) := (hs14 (180) (by omega)).trans hk6
    have hk17 : s14 (181) = σ (181) := (hs14 (181) (by omega)).trans hk7
    have hk18 : s14 (182) = σ (182) := (hs14 (182) (by omega)).trans hk8
    have hk19 : s14 (183) = σ (183) := (hs14 (183) (by omega)).trans hk9
    have hk20 : s14 (184) = σ (184) := (hs14 (184) (by omega)).trans hk10
    have hk21 : s14 (187) = σ (187) := (hs14 (187) (by omega)).trans hk11
    refine ra_load rfl rfl rfl rfl ?_
    refine ra_cV (s4_249 (by have q := (pt_e (ra_gk (hs14 179 (by omega))) (ra_gk (hs14 179 (by omega))) (ra_gk (hs14 179 (by omega))) (ra_gk (hs14 179 (by omega))) (pt_e (he4 12 (by decide) (by decide)) (he4 17 (by decide) (by decide)) (he4 18 (by decide) (by decide)) (he4 19 (by decide) (by decide)) hpt)); omega) (x4TR_k ((ra_gk (hs14 179 (by omega))).trans (he4 12 (by decide) (by decide))) ((hs14 (187) (by omega)).trans (hf3 (187) (by omega))) hB) (show ra_g s14 179 17 = ((x4tx_n B bn ti : Nat) : Int) from (((ra_gk (hs14 179 (by omega))).trans (he4 17 (by decide) (by decide)))).trans hK.2.1) (x4RTK_n hK)) rfl (ct_249 rfl lk_8_240 (Or.inl rfl) sh_179 (Nat.le_of_ble_eq_true rfl)) (fun s22 hs22 => ?_)
    obtain ⟨hf23, he24, he25, he26, he27⟩ := hs22
    have hF28 := Fr_tr (lo := 179) (hi := 189) hF15 hf23 (by omega)
    have hk29 : s22 (180) = σ (180) := (hf23 (180) (by omega)).trans hk16
    have hk30 : s22 (181) = σ (181) := (hf23 (181) (by omega)).trans hk17
    have hk31 : s22 (182) = σ (182) := (hf23 (182) (by omega)).trans hk18
    have hk32 : s22 (183) = σ (183) := (hf23 (183) (by omega)).trans hk19
    have hk33 : s22 (184) = σ (184) := (hf23 (184) (by omega)).trans hk20
    have hk34 : s22 (187) = σ (187) := (hf23 (187) (by omega)).trans hk21
    refine ra_iconst rfl ?_
    exact ra_ireturn rfl (ra_okB (Or.inr rfl)) ⟨⟨_, (Or.inr rfl), ⟨(fun _ => by have m_s1 : ra_g s1 179 17 = ra_g σ 179 17 := (he4 17 (by decide) (by decide)); have k_s1 : ra_g s1 179 20 = ra_g σ 179 20 := (he4 20 (by decide) (by decide)); have m_s14 : ra_g s14 179 17 = ra_g s1 179 17 := (ra_gk (hs14 179 (by omega))); have k_s14 : ra_g s14 179 20 = ra_g s1 179 20 := (ra_gk (hs14 179 (by omega))); have m_s22 := he26.1; have m_a := he26.2; have a1 := he4 19 (by decide) (by decide); have a2 : ra_g s22 188 x0.toNat = ra_g s14 188 x0.toNat := ra_gk (hf23 188 (by omega)); have a3 := hs14v; have a4 := hz2o (by omega); exact ⟨by omega, by omega, by omega, fun q => by have := m_a q; omega⟩), (x4ta_y hz2q (by omega) rfl ((ra_gk (hf23 188 (by omega))).trans (hs14v.trans (he4 19 (by decide) (by decide)))) he27 ⟨((he24 15 (by decide) (by decide) (by decide) (by decide)).trans (ra_gk (hs14 179 (by omega)))), ((he24 16 (by decide) (by decide) (by decide) (by decide)).trans (ra_gk (hs14 179 (by omega))))⟩)⟩, rfl⟩, ⟨hF28, hk29, hk30, hk31, hk32, hk33, (fun a h15 h16 h17 h18 h19 h20 => ((he24 a h17 h18 h19 h20).trans ((ra_gk (hs14 179 (by omega))).trans (he4 a h15 h16)))), (fun a h => (ra_gk (hf23 188 (by omega))).trans ((hs14o a h).trans (ra_gk (hf3 188 (by omega))))), he25, (by have m_s1 : ra_g s1 179 17 = ra_g σ 179 17 := (he4 17 (by decide) (by decide)); have k_s1 : ra_g s1 179 20 = ra_g σ 179 20 := (he4 20 (by decide) (by decide)); have m_s14 : ra_g s14 179 17 = ra_g s1 179 17 := (ra_gk (hs14 179 (by omega))); have k_s14 : ra_g s14 179 20 = ra_g s1 179 20 := (ra_gk (hs14 179 (by omega))); have m_s22 := he26.1; omega), ((hf23 (187) (by omega)).trans ((hs14 (187) (by omega)).trans (hf3 (187) (by omega))))⟩⟩
  · refine ra_iconst rfl ?_
    exact ra_ireturn rfl (ra_okB (Or.inl rfl)) ⟨⟨_, (Or.inl rfl), ⟨(fun q => absurd q (by decide)), (x4ta_n hz2q (by omega) rfl)⟩, rfl⟩, ⟨hF5, hk6, hk7, hk8, hk9, hk10, (fun a h15 h16 h17 h18 h19 h20 => (he4 a h15 h16)), (fun a h => ra_gk (hf3 188 (by omega))), (pt_e (he4 12 (by decide) (by decide)) (he4 17 (by decide) (by decide)) (he4 18 (by decide) (by decide)) (he4 19 (by decide) (by decide)) hpt), (by have m_s1 : ra_g s1 179 17 = ra_g σ 179 17 := (he4 17 (by decide) (by decide)); have k_s1 : ra_g s1 179 20 = ra_g σ 179 20 := (he4 20 (by decide) (by decide)); omega), (hf3 (187) (by omega))⟩⟩
theorem s4_259 {n : Nat} {f : Nat → Int32} {d : Nat}  {σ : ra_V} (hpt : 0 ≤ ra_g σ 179 18 ∧ ra_g σ 179 18 ≤ ra_g σ 179 17 ∧ ra_g σ 179 17 ≤ ra_g σ 179 12 ∧ ra_g σ 179 12 ≤ 500 ∧ 0 ≤ ra_g σ 179 19 ∧ ra_g σ 179 19 ≤ 999) (hB : x4TR σ B bn) (hK : x4RTK B bn σ (tx_a B bn ti)) (he0 : ra_g σ 179 15 = 0) : ra_C (g_Gs n f) g_sh 0 (d + 3) 259 [.index (179)] σ (fun r9 s => (∃ z : Int, (z = 0 ∨ z = 1) ∧ ((z = 1 → ra_g σ 179 20 = 3) ∧ x4RSE B bn σ s z ti) ∧ r9 = .inl (some (ra_I z))) ∧ Fr (179) (180) σ s ∧ (∀ a, a ≠ 15 → a ≠ 16 → a ≠ 17 → a ≠ 18 → a ≠ 19 → a ≠ 20 → ra_g s 179 a = ra_g σ 179 a) ∧ (0 ≤ ra_g s 179 18 ∧ ra_g s 179 18 ≤ ra_g s 179 17 ∧ ra_g s 179 17 ≤ ra_g s 179 12 ∧ ra_g s 179 12 ≤ 500 ∧ 0 ≤ ra_g s 179 19 ∧ ra_g s 179 19 ≤ 999) ∧ ra_g σ 179 17 ≤ ra_g s 179 17) := by
  refine ra_enter (nn := 0) mt_259 rfl (Nat.le_of_ble_eq_true rfl) rfl (fun h => absurd h (by decide +kernel)) ?_
  refine ra_load rfl rfl rfl rfl ?_
  refine ra_getI rfl lk_8_204 (Nat.zero_le _) sh_179 rfl ?_
  have hr1 : ra_in (ra_g σ (179) 20) := (ra_in_g _ _ _)
  refine ra_iconst rfl ?_
  refine ra_iceq rfl rfl hr1 (by first | omega | (unfold ra_in at *; omega)) (fun h2 => ?_) (fun h2 => ?_)
  · refine ra_load rfl rfl rfl rfl ?_
    refine ra_cV (s4_249 (by omega) hB (show ra_g σ 179 17 = ((x4tx_n B bn ti : Nat) : Int) from (rfl).trans hK.2.1) (x4RTK_n hK)) rfl (ct_249 rfl lk_8_240 (Or.inl rfl) sh_179 (Nat.le_of_ble_eq_true rfl)) (fun s3 hs3 => ?_)
    obtain ⟨hf4, he5, he6, he7, he8⟩ := hs3
    have hF9 := Fr_tr (lo := 179) (hi := 180) Fr_rf hf4 (by omega)
    refine ra_iconst rfl ?_
    exact ra_ireturn rfl (ra_okB (Or.inr rfl)) ⟨⟨_, (Or.inr rfl), ⟨(fun q => by omega), (x4se_y hK (by omega) rfl he8 ⟨((he5 15 (by decide) (by decide) (by decide) (by decide))).trans he0, (he5 16 (by decide) (by decide) (by decide) (by decide))⟩)⟩, rfl⟩, ⟨hF9, (fun a h15 h16 h17 h18 h19 h20 => (he5 a h17 h18 h19 h20)), he6, (by have m_s3 := he7.1; omega)⟩⟩
  · refine ra_load rfl rfl rfl rfl ?_
    refine ra_iconst rfl ?_
    refine ra_cQP (s4_251 (by first | omega | (unfold ra_in at *; omega))) rfl (ct_251 rfl lk_8_233 (Or.inl rfl) sh_179 (Nat.le_of_ble_eq_true rfl)) (fun z11 s10 hz11 hz11p hs10 => ?_)
    obtain ⟨hf12, he13, he14⟩ := hs10
    have hF15 := Fr_tr (lo := 179) (hi := 180) Fr_rf hf12 (by omega)
    exact ra_ireturn rfl (ra_okB hz11) ⟨⟨_, hz11, ⟨(fun q => by omega), (x4se_n hK (by omega) hz11p (by have q := he14 he0; omega))⟩, rfl⟩, ⟨hF15, (fun a h15 h16 h17 h18 h19 h20 => (he13 a h15 h16)), (pt_e (he13 12 (by decide) (by decide)) (he13 17 (by decide) (by decide)) (he13 18 (by decide) (by decide)) (he13 19 (by decide) (by decide)) hpt), (by have m_s10 : ra_g s10 179 17 = ra_g σ 179 17 := (he13 17 (by decide) (by decide)); have k_s10 : ra_g s10 179 20 = ra_g σ 179 20 := (he13 20 (by decide) (by decide)); omega)⟩⟩
theorem l4_252_23 {n : Nat} {f : Nat → Int32} {d : Nat} {q0 : Nat} {tx0 : String} {u0 w0 : Nat} {σ : ra_V} (hq0 : ri_cp (g_Gs n f) g_m_X8_isWord q0 = some (9, u0, w0, tx0)) (hl0 : tx0.toList.length ≤ 100) (hpt : 0 ≤ ra_g σ 179 18 ∧ ra_g σ 179 18 ≤ ra_g σ 179 17 ∧ ra_g σ 179 17 ≤ ra_g σ 179 12 ∧ ra_g σ 179 12 ≤ 500 ∧ 0 ≤ ra_g σ 179 19 ∧ ra_g σ 179 19 ≤ 999) (hB : x4TR σ B bn) (hN : x4RTK B bn σ ta) : ∀ (nn : Nat) (v2 : Int) (hv2_0 : 0 ≤ v2) (hv2_1 : v2 ≤ 500) (hv2_2 : ∀ j : Nat, (j : Int) < v2 → B (ta + j) = ((tx0.toList.getD j 'a').toNat : Int)) (hle : (tx0.toList.length : Int) = ra_g σ 179 17 - ra_g σ 179 18) (hk : tx_k B bn ta = 1 ∧ tx_e B bn ta = ta + tx0.toList.length) (hm : (((tx0.toList.length : Int) - v2 : Int)).toNat < nn), ra_P (g_Gs n f) g_sh 0 (d + 5) g_m_X8_isWord 23 [some (.index (179)), some (.string (ri_own g_m_X8_isWord) q0), some (ra_I v2)] [] σ (fun r9 s => (∃ z : Int, (z = 0 ∨ z = 1) ∧ (z = 1 ↔ tx_isw B bn ta tx0.toList = true) ∧ r9 = .inl (some (ra_I z))) ∧ s = σ) := by
  intro nn
  induction nn with
  | zero => intro v2 hv2_0 hv2_1 hv2_2 hle hk hm; exact absurd hm (Nat.not_lt_zero _)
  | succ nn ih =>
    intro v2 hv2_0 hv2_1 hv2_2 hle hk hm
    have hB0 := hB
    obtain ⟨b1, b2, b3, b4⟩ := hB0
    have hN0 := hN
    obtain ⟨n1, n2, n3, -, n5, n6, n7⟩ := hN0
    refine ra_load rfl rfl rfl rfl ?_
    refine ra_load rfl rfl rfl rfl ?_
    refine ra_slen_ rfl lk_8_224 hq0 (Nat.le_of_ble_eq_true rfl) (by decide +kernel) ?_
    refine ra_icge rfl rfl (by first | omega | (unfold ra_in at *; omega)) (by first | omega | (unfold ra_in at *; omega)) (fun h6 => ?_) (fun h6 => ?_)
    · refine ra_iconst rfl ?_
      exact ra_ireturn rfl (ra_okB (Or.inr rfl)) ⟨⟨_, (Or.inr rfl), (iff_of_true rfl (x4isw_iff.mpr ⟨hk.1, by omega, fun j hj => hv2_2 j (by omega)⟩)), rfl⟩, rfl⟩
    · refine ra_load rfl rfl rfl rfl ?_
      refine ra_getR rfl lk_8_31 (Nat.zero_le _) sh_179 rfl ?_
      refine ra_load rfl rfl rfl rfl ?_
      refine ra_getI rfl lk_8_198 (Nat.zero_le _) sh_179 rfl ?_
      have hr7 : ra_in (ra_g σ (179) 18) := (ra_in_g _ _ _)
      refine ra_load rfl rfl rfl rfl ?_
      refine ra_iadd rfl ?_
      have eb : ra_g σ 187 (ra_g σ 179 18 + v2).toNat = B (ta + v2.toNat) := by rw [show (ra_g σ 179 18 + v2).toNat = ta + v2.toNat by omega]; exact ((b3 _ (by omega)).1).symm
      refine ra_iaload rfl sh_187 rfl (by decide) (by first | omega | (unfold ra_in at *; omega)) (by first | omega | (unfold ra_in at *; omega)) ?_
      have hr8 : ra_in (ra_g σ (187) ((ra_g σ (179) 18) + v2).toNat) := (ra_in_g _ _ _)
      refine ra_load rfl rfl rfl rfl ?_
      refine ra_load rfl rfl rfl rfl ?_
      obtain ⟨ch9, hch9⟩ : ∃ c, tx0.toList[(v2).toNat]? = some c := ⟨_, List.getElem?_eq_getElem (by first | omega | (unfold ra_in at *; omega))⟩
      refine ra_schar rfl lk_8_229 hq0 (Nat.le_of_ble_eq_true rfl) (by decide +kernel) (by first | omega | (unfold ra_in at *; omega)) (by first | omega | (unfold ra_in at *; omega)) hch9 ?_
      refine ra_iceq rfl rfl hr8 (x4ch_in ch9) (fun h10 => ?_) (fun h10 => ?_)
      · refine ra_iinc (L' := [_, _, _]) rfl rfl (Nat.le_of_ble_eq_true rfl) rfl ?_
        refine ra_goto rfl rfl ?_
        exact ra_weak (by repeat' constructor) (ih (v2 + 1) (by first | omega | (unfold ra_in at *; omega)) (by first | omega | (unfold ra_in at *; omega)) (x4isw_s hv2_0 hv2_2 hch9 (by omega)) hle hk (by first | omega | (unfold ra_in at *; omega)))
      · refine ra_iconst rfl ?_
        exact ra_ireturn rfl (ra_okB (Or.inl rfl)) ⟨⟨_, (Or.inl rfl), (iff_of_false (by decide) (x4isw_n hch9 (by omega))), rfl⟩, rfl⟩
theorem s4_252 {n : Nat} {f : Nat → Int32} {d : Nat} {q0 : Nat} {tx0 : String} {u0 w0 : Nat} {σ : ra_V} (hq0 : ri_cp (g_Gs n f) g_m_X8_isWord q0 = some (9, u0, w0, tx0)) (hl0 : tx0.toList.length ≤ 100) (hpt : 0 ≤ ra_g σ 179 18 ∧ ra_g σ 179 18 ≤ ra_g σ 179 17 ∧ ra_g σ 179 17 ≤ ra_g σ 179 12 ∧ ra_g σ 179 12 ≤ 500 ∧ 0 ≤ ra_g σ 179 19 ∧ ra_g σ 179 19 ≤ 999) (hB : x4TR σ B bn) (hN : x4RTK B bn σ ta) : ra_C (g_Gs n f) g_sh 0 (d + 6) 252 [.index (179), .string (ri_own g_m_X8_isWord) q0] σ (fun r9 s => (∃ z : Int, (z = 0 ∨ z = 1) ∧ (z = 1 ↔ tx_isw B bn ta tx0.toList = true) ∧ r9 = .inl (some (ra_I z))) ∧ s = σ) := by
  refine ra_enter (nn := 1) mt_252 rfl (Nat.le_of_ble_eq_true rfl) rfl (fun _ => by omega) ?_
  have hB0 := hB
  obtain ⟨b1, b2, b3, b4⟩ := hB0
  have hN0 := hN
  obtain ⟨n1, n2, n3, -, n5, n6, n7⟩ := hN0
  refine ra_load rfl rfl rfl rfl ?_
  refine ra_getI rfl lk_8_204 (Nat.zero_le _) sh_179 rfl ?_
  have hr1 : ra_in (ra_g σ (179) 20) := (ra_in_g _ _ _)
  refine ra_iconst rfl ?_
  refine ra_icne rfl rfl hr1 (by first | omega | (unfold ra_in at *; omega)) (fun h2 => ?_) (fun h2 => ?_)
  · refine ra_iconst rfl ?_
    exact ra_ireturn rfl (ra_okB (Or.inl rfl)) ⟨⟨_, (Or.inl rfl), (iff_of_false (by decide) (fun q => by have q1 := x4isw_iff.mp q; have q2 := q1.1; have q3 := q1.2.1; omega)), rfl⟩, rfl⟩
  · refine ra_load rfl rfl rfl rfl ?_
    refine ra_cTp (sp_250 (by omega)) rfl (ct_250 rfl lk_8_221 (Or.inl rfl) sh_179 (Nat.le_of_ble_eq_true rfl)) ?_
    have hr4 : ra_in (ra_g σ 179 17 - ra_g σ 179 18) := (by unfold ra_in; omega)
    refine ra_load rfl rfl rfl rfl ?_
    refine ra_slen_ rfl lk_8_224 hq0 (Nat.le_of_ble_eq_true rfl) (by decide +kernel) ?_
    refine ra_iceq rfl rfl hr4 (by first | omega | (unfold ra_in at *; omega)) (fun h5 => ?_) (fun h5 => ?_)
    · refine ra_iconst rfl ?_
      refine ra_store (L' := [_, _, _]) rfl rfl rfl (Nat.le_of_ble_eq_true rfl) rfl ?_
      exact ra_weak (by repeat' constructor) (l4_252_23 hq0 hl0 hpt hB hN _ (0) (by first | omega | (unfold ra_in at *; omega)) (by first | omega | (unfold ra_in at *; omega)) (fun j hj => by omega) (by omega) (by omega) (Nat.lt_succ_self _))
    · refine ra_iconst rfl ?_
      exact ra_ireturn rfl (ra_okB (Or.inl rfl)) ⟨⟨_, (Or.inl rfl), (iff_of_false (by decide) (fun q => by have q1 := x4isw_iff.mp q; have q2 := q1.1; have q3 := q1.2.1; omega)), rfl⟩, rfl⟩
end
