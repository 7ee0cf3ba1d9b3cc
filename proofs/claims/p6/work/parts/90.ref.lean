/-! the reference: what its methods do (printed by wip/gen/ref.py) -/
section RB
theorem sp_334 {n : Nat} {f : Nat → Int32} {d : Nat} {x0 : Int} {σ : ra_V} (hx0 : ra_in x0) (ho : 0 ≤ ra_g σ 179 25 ∧ ra_g σ 179 25 < 150) : ra_C (g_Gs n f) g_sh 0 (d + 1) 334 [.index (179), ra_I x0] σ (fun r s => rV r ∧ Fr (179) (191) σ s ∧ s (180) = σ (180) ∧ s (183) = σ (183) ∧ s (184) = σ (184) ∧ s (187) = σ (187) ∧ (∀ a, a ≠ 25 → ra_g s 179 a = ra_g σ 179 a) ∧ ra_g s 179 25 = ra_g σ 179 25 + 1) := by
  refine ra_enter (nn := 0) mt_334 rfl (Nat.le_of_ble_eq_true rfl) rfl (fun h => absurd h (by decide +kernel)) ?_
  refine ra_load rfl rfl rfl rfl ?_
  refine ra_getR rfl lk_8_44 (Nat.zero_le _) sh_179 rfl ?_
  refine ra_load rfl rfl rfl rfl ?_
  refine ra_getI rfl lk_8_427 (Nat.zero_le _) sh_179 rfl ?_
  have hr1 : ra_in (ra_g σ (179) 25) := (ra_in_g _ _ _)
  refine ra_load rfl rfl rfl rfl ?_
  refine ra_iastore rfl sh_190 rfl (by decide) (by first | omega | (unfold ra_in at *; omega)) (by first | omega | (unfold ra_in at *; omega)) ?_
  refine ra_new Fr_up (fun s2 hs2 => ?_)
  have hF3 := Fr_tr (lo := 179) (hi := 191) Fr_rf hs2 (by omega)
  have hk4 : s2 (180) = σ (180) := (hs2 (180) (by omega))
  have hk5 : s2 (183) = σ (183) := (hs2 (183) (by omega))
  have hk6 : s2 (184) = σ (184) := (hs2 (184) (by omega))
  have hk7 : s2 (187) = σ (187) := (hs2 (187) (by omega))
  have hk8 : s2 (179) = σ (179) := (hs2 (179) (by omega))
  refine ra_load rfl rfl rfl rfl ?_
  refine ra_dup rfl rfl ?_
  refine ra_getI rfl lk_8_427 (Nat.zero_le _) sh_179 rfl ?_
  rw [ra_gk hk8]
  have hr9 : ra_in (ra_g σ (179) 25) := (ra_in_g _ _ _)
  refine ra_iconst rfl ?_
  refine ra_iadd rfl ?_
  refine ra_putI rfl lk_8_427 (Nat.zero_le _) sh_179 rfl rfl ?_
  refine ra_newU (by first | omega | (unfold ra_in at *; omega)) (fun s10 hs10 hp11 hp11o => ?_)
  have hp11_99 := hp11o 99 (by decide)
  rw [ra_gk hk8] at hp11_99
  have hF12 := Fr_tr (lo := 179) (hi := 191) hF3 hs10 (by omega)
  have hk13 : s10 (180) = σ (180) := (hs10 (180) (by omega)).trans hk4
  have hk14 : s10 (183) = σ (183) := (hs10 (183) (by omega)).trans hk5
  have hk15 : s10 (184) = σ (184) := (hs10 (184) (by omega)).trans hk6
  have hk16 : s10 (187) = σ (187) := (hs10 (187) (by omega)).trans hk7
  exact ra_return rfl rfl ⟨rfl, ⟨hF12, hk13, hk14, hk15, hk16, (fun a h => (hp11o a h).trans (ra_gk (hs2 179 (by omega)))), by omega⟩⟩
theorem sp_250 {n : Nat} {f : Nat → Int32} {d : Nat}  {σ : ra_V} (hpi : 0 ≤ ra_g σ 179 18 ∧ ra_g σ 179 18 ≤ ra_g σ 179 17 ∧ ra_g σ 179 17 ≤ ra_g σ 179 12 ∧ ra_g σ 179 12 ≤ 500) : ra_C (g_Gs n f) g_sh 0 (d + 1) 250 [.index (179)] σ (fun r s => r = .inl (some (ra_I (ra_g σ 179 17 - ra_g σ 179 18))) ∧ s = σ) := by
  refine ra_enter (nn := 0) mt_250 rfl (Nat.le_of_ble_eq_true rfl) rfl (fun h => absurd h (by decide +kernel)) ?_
  refine ra_load rfl rfl rfl rfl ?_
  refine ra_getI rfl lk_8_192 (Nat.zero_le _) sh_179 rfl ?_
  have hr1 : ra_in (ra_g σ (179) 17) := (ra_in_g _ _ _)
  refine ra_load rfl rfl rfl rfl ?_
  refine ra_getI rfl lk_8_198 (Nat.zero_le _) sh_179 rfl ?_
  have hr2 : ra_in (ra_g σ (179) 18) := (ra_in_g _ _ _)
  refine ra_isub rfl ?_
  exact ra_ireturn rfl rfl ⟨(congrArg (fun z => Sum.inl (some (ra_I z))) (by first | rfl | omega)), rfl⟩
theorem sp_251 {n : Nat} {f : Nat → Int32} {d : Nat} {x0 : Int} {σ : ra_V} (hx0 : ra_in x0) : ra_C (g_Gs n f) g_sh 0 (d + 1) 251 [.index (179), ra_I x0] σ (fun r s => (∃ z : Int, (z = 0 ∨ z = 1) ∧ (z = 0) ∧ r = .inl (some (ra_I z))) ∧ Fr (179) (180) σ s ∧ (∀ a, a ≠ 15 → a ≠ 16 → ra_g s 179 a = ra_g σ 179 a)) := by
  refine ra_enter (nn := 0) mt_251 rfl (Nat.le_of_ble_eq_true rfl) rfl (fun h => absurd h (by decide +kernel)) ?_
  refine ra_load rfl rfl rfl rfl ?_
  refine ra_getI rfl lk_8_215 (Nat.zero_le _) sh_179 rfl ?_
  have hr1 : ra_in (ra_g σ (179) 15) := (ra_in_g _ _ _)
  refine ra_ifne rfl rfl hr1 (fun h2 => ?_) (fun h2 => ?_)
  · refine ra_iconst rfl ?_
    exact ra_ireturn rfl (ra_okB (Or.inl rfl)) ⟨⟨_, (Or.inl rfl), rfl, rfl⟩, ⟨Fr_rf, (fun a h15 h16 => rfl)⟩⟩
  · refine ra_load rfl rfl rfl rfl ?_
    refine ra_load rfl rfl rfl rfl ?_
    refine ra_putI rfl lk_8_215 (Nat.zero_le _) sh_179 rfl rfl ?_
    refine ra_newU hx0 (fun s3 hs3 hp4 hp4o => ?_)
    have hp4_99 := hp4o 99 (by decide)
    have hF5 := Fr_tr (lo := 179) (hi := 180) Fr_rf hs3 (by omega)
    refine ra_load rfl rfl rfl rfl ?_
    refine ra_load rfl rfl rfl rfl ?_
    refine ra_getI rfl lk_8_198 (Nat.zero_le _) sh_179 rfl ?_
    have hr6 : ra_in (ra_g s3 (179) 18) := (ra_in_g _ _ _)
    refine ra_putI rfl lk_8_218 (Nat.zero_le _) sh_179 rfl rfl ?_
    refine ra_newU hr6 (fun s7 hs7 hp8 hp8o => ?_)
    have hp8_99 := hp8o 99 (by decide)
    have hF9 := Fr_tr (lo := 179) (hi := 180) hF5 hs7 (by omega)
    refine ra_iconst rfl ?_
    exact ra_ireturn rfl (ra_okB (Or.inl rfl)) ⟨⟨_, (Or.inl rfl), rfl, rfl⟩, ⟨hF9, (fun a h15 h16 => ((hp8o a h16).trans (hp4o a h15)))⟩⟩
end RB
