/-! the reference: what its methods do (printed by wip/gen/ref.py) -/
section RB
theorem sp_247 {n : Nat} {f : Nat → Int32} {d : Nat} {x0 : Int} {σ : ra_V} (hx0 : ra_in x0) (hn0 : 0 ≤ ra_g σ 179 12 ∧ ra_g σ 179 12 ≤ 500) : ra_C (g_Gs n f) g_sh 0 (d + 2) 247 [.index (179), ra_I x0] σ (fun r s => r = .inl (some (ra_B (0 ≤ x0 ∧ x0 ≤ ra_g σ 179 12))) ∧ Fr (179) (180) σ s ∧ (∀ a, a ≠ 7 → a ≠ 12 → ra_g s 179 a = ra_g σ 179 a) ∧ ((0 ≤ x0 ∧ x0 ≤ ra_g σ 179 12) → ra_g s 179 12 = x0) ∧ (¬ (0 ≤ x0 ∧ x0 ≤ ra_g σ 179 12) → ra_g s 179 12 = ra_g σ 179 12)) := by
  refine ra_enter (nn := 0) mt_247 rfl (Nat.le_of_ble_eq_true rfl) rfl (fun h => absurd h (by decide +kernel)) ?_
  refine ra_load rfl rfl rfl rfl ?_
  refine ra_iconst rfl ?_
  refine ra_putI rfl lk_8_51 (Nat.zero_le _) sh_179 rfl rfl ?_
  refine ra_newU (by first | omega | (unfold ra_in at *; omega)) (fun s1 hs1 hp2 hp2o => ?_)
  have hp2_12 := hp2o 12 (by decide)
  have hF3 := Fr_tr (lo := 179) (hi := 180) Fr_rf hs1 (by omega)
  have hk4 : s1 (180) = σ (180) := (hs1 (180) (by omega))
  refine ra_load rfl rfl rfl rfl ?_
  refine ra_i2l rfl hx0 ?_
  refine ra_lconst0 rfl ?_
  refine ra_load rfl rfl rfl rfl ?_
  refine ra_getI rfl lk_8_186 (Nat.zero_le _) sh_179 rfl ?_
  have hr5 : ra_in (ra_g s1 (179) 12) := (ra_in_g _ _ _)
  refine ra_i2l rfl hr5 ?_
  refine ra_cTp (sp_192 hx0 (by first | omega | (unfold ra_in at *; omega)) hr5) rfl (ct_192 rfl lk_8_63 (Or.inl rfl) (Nat.le_of_ble_eq_true rfl)) ?_
  refine ra_ifneB rfl rfl (fun h7 => ?_) (fun h7 => ?_)
  · refine ra_load rfl rfl rfl rfl ?_
    refine ra_load rfl rfl rfl rfl ?_
    refine ra_putI rfl lk_8_186 (Nat.zero_le _) sh_179 rfl rfl ?_
    refine ra_newU hx0 (fun s8 hs8 hp9 hp9o => ?_)
    have hF10 := Fr_tr (lo := 179) (hi := 180) hF3 hs8 (by omega)
    have hk11 : s8 (180) = σ (180) := (hs8 (180) (by omega)).trans hk4
    refine ra_iconst rfl ?_
    exact ra_ireturn rfl (ra_okB (Or.inr rfl)) ⟨(by unfold ra_B; rw [if_pos (by omega)]), ⟨hF10, (fun a h7 h12 => ((hp9o a h12).trans (hp2o a h7))), (fun q => by omega), (fun q => by omega)⟩⟩
  · refine ra_iconst rfl ?_
    exact ra_ireturn rfl (ra_okB (Or.inl rfl)) ⟨(by unfold ra_B; rw [if_neg (by omega)]), ⟨hF3, (fun a h7 h12 => (hp2o a h7)), (fun q => by omega), (fun q => by omega)⟩⟩
theorem sp_248 {n : Nat} {f : Nat → Int32} {d : Nat} {x0 : Int} {σ : ra_V} (hx0 : ra_in x0) (hn0 : 0 ≤ ra_g σ 179 12 ∧ ra_g σ 179 12 ≤ 500) (hi : 0 ≤ x0) : ra_C (g_Gs n f) g_sh 0 (d + 1) 248 [.index (179), ra_I x0] σ (fun r s => (∃ z, ra_in z ∧ ((x0 < ra_g σ 179 12 → z = ra_g σ 187 x0.toNat) ∧ (ra_g σ 179 12 ≤ x0 → z = -1)) ∧ r = .inl (some (ra_I z))) ∧ s = σ) := by
  refine ra_enter (nn := 0) mt_248 rfl (Nat.le_of_ble_eq_true rfl) rfl (fun h => absurd h (by decide +kernel)) ?_
  refine ra_load rfl rfl rfl rfl ?_
  refine ra_load rfl rfl rfl rfl ?_
  refine ra_getI rfl lk_8_186 (Nat.zero_le _) sh_179 rfl ?_
  have hr1 : ra_in (ra_g σ (179) 12) := (ra_in_g _ _ _)
  refine ra_icge rfl rfl hx0 hr1 (fun h2 => ?_) (fun h2 => ?_)
  · refine ra_iconst rfl ?_
    exact ra_ireturn rfl rfl ⟨⟨_, (by first | omega | (unfold ra_in at *; omega)), ⟨fun q => by first | rfl | (exfalso; omega), fun q => by first | rfl | (exfalso; omega)⟩, rfl⟩, rfl⟩
  · refine ra_load rfl rfl rfl rfl ?_
    refine ra_getR rfl lk_8_31 (Nat.zero_le _) sh_179 rfl ?_
    refine ra_load rfl rfl rfl rfl ?_
    refine ra_iaload rfl sh_187 rfl (by decide) (by first | omega | (unfold ra_in at *; omega)) (by first | omega | (unfold ra_in at *; omega)) ?_
    have hr3 : ra_in (ra_g σ (187) x0.toNat) := (ra_in_g _ _ _)
    refine ra_goto rfl rfl ?_
    exact ra_ireturn rfl rfl ⟨⟨_, hr3, ⟨fun q => by first | rfl | (exfalso; omega), fun q => by first | rfl | (exfalso; omega)⟩, rfl⟩, rfl⟩
end RB
