/-! T5: what the class answers (printed by wip/gen/c5.py) -/
section
variable {τ : ra_V}
theorem s5_185 {n : Nat} {f : Nat → Int32} {d : Nat} {x0 : Int} {x1 : Int} {x2 : Int} {x3 : Int} {σ : ra_V} (hx0 : ra_in x0) (hx1 : ra_in x1) (hx2 : ra_in x2) (hx3 : ra_in x3) : ra_C (g_Gs n f) g_sh 0 (d + 1) 185 [ra_J x0, ra_J x1, ra_J x2, ra_J x3] σ (fun r9 s => r9 = .inl (some (ra_B (x0 < x2 + x3 ∧ x2 < x0 + x1))) ∧ s = σ) := by
  refine ra_enter (nn := 0) mt_185 rfl (Nat.le_of_ble_eq_true rfl) rfl (fun h => absurd h (by decide +kernel)) ?_
  refine ra_load rfl rfl rfl rfl ?_
  refine ra_load rfl rfl rfl rfl ?_
  refine ra_load rfl rfl rfl rfl ?_
  refine ra_ladd rfl ?_
  refine ra_lcmp rfl (by unfold ra_in6; first | omega | (unfold ra_in at *; omega)) (by unfold ra_in6; first | omega | (unfold ra_in at *; omega)) ?_
  refine ra_ifge rfl rfl (ra_in_cmp _ _) (fun h1 => ?_) (fun h1 => ?_)
  · rw [ra_cmp_ge] at h1
    refine ra_iconst rfl ?_
    exact ra_ireturn rfl (ra_okB (Or.inl rfl)) ⟨(by unfold ra_B; rw [if_neg (by omega)]), rfl⟩
  · rw [ra_cmp_lt] at h1
    refine ra_load rfl rfl rfl rfl ?_
    refine ra_load rfl rfl rfl rfl ?_
    refine ra_load rfl rfl rfl rfl ?_
    refine ra_ladd rfl ?_
    refine ra_lcmp rfl (by unfold ra_in6; first | omega | (unfold ra_in at *; omega)) (by unfold ra_in6; first | omega | (unfold ra_in at *; omega)) ?_
    refine ra_ifge rfl rfl (ra_in_cmp _ _) (fun h2 => ?_) (fun h2 => ?_)
    · rw [ra_cmp_ge] at h2
      refine ra_iconst rfl ?_
      exact ra_ireturn rfl (ra_okB (Or.inl rfl)) ⟨(by unfold ra_B; rw [if_neg (by omega)]), rfl⟩
    · rw [ra_cmp_lt] at h2
      refine ra_iconst rfl ?_
      refine ra_goto rfl rfl ?_
      exact ra_ireturn rfl (ra_okB (Or.inr rfl)) ⟨(by unfold ra_B; rw [if_pos (by omega)]), rfl⟩
theorem s5_188 {n : Nat} {f : Nat → Int32} {d : Nat} {x0 : Int} {x1 : Int} {σ : ra_V} (hx0 : ra_in x0) (hx1 : ra_in x1) (hp : -1000000 ≤ x0 ∧ x0 ≤ 1000000 ∧ -1000000 ≤ x1 ∧ x1 ≤ 1000000) : ra_C (g_Gs n f) g_sh 0 (d + 1) 188 [ra_I x0, ra_I x1] σ (fun r9 s => r9 = .inl (some (ra_I (rfar x0 x1))) ∧ s = σ) := by
  refine ra_enter (nn := 0) mt_188 rfl (Nat.le_of_ble_eq_true rfl) rfl (fun h => absurd h (by decide +kernel)) ?_
  have hr0 := rfar_b x0 x1
  refine ra_load rfl rfl rfl rfl ?_
  refine ra_load rfl rfl rfl rfl ?_
  refine ra_icge rfl rfl hx0 hx1 (fun h1 => ?_) (fun h1 => ?_)
  · refine ra_load rfl rfl rfl rfl ?_
    refine ra_load rfl rfl rfl rfl ?_
    refine ra_isub rfl ?_
    exact ra_ireturn rfl rfl ⟨(congrArg (fun z => Sum.inl (some (ra_I z))) (by omega)), rfl⟩
  · refine ra_load rfl rfl rfl rfl ?_
    refine ra_load rfl rfl rfl rfl ?_
    refine ra_isub rfl ?_
    refine ra_goto rfl rfl ?_
    exact ra_ireturn rfl rfl ⟨(congrArg (fun z => Sum.inl (some (ra_I z))) (by omega)), rfl⟩
theorem s5_189 {n : Nat} {f : Nat → Int32} {d : Nat} {x0 : Int} {x1 : Int} {σ : ra_V} (hx0 : ra_in x0) (hx1 : ra_in x1) : ra_C (g_Gs n f) g_sh 0 (d + 1) 189 [ra_I x0, ra_I x1] σ (fun r9 s => (∃ z, ra_in z ∧ ((x1 < x0 → z = 2) ∧ (x0 ≤ x1 → z = 1)) ∧ r9 = .inl (some (ra_I z))) ∧ s = σ) := by
  refine ra_enter (nn := 0) mt_189 rfl (Nat.le_of_ble_eq_true rfl) rfl (fun h => absurd h (by decide +kernel)) ?_
  refine ra_load rfl rfl rfl rfl ?_
  refine ra_load rfl rfl rfl rfl ?_
  refine ra_icle rfl rfl hx0 hx1 (fun h1 => ?_) (fun h1 => ?_)
  · refine ra_iconst rfl ?_
    exact ra_ireturn rfl rfl ⟨⟨_, (by first | omega | (unfold ra_in at *; omega)), (by omega), rfl⟩, rfl⟩
  · refine ra_iconst rfl ?_
    refine ra_goto rfl rfl ?_
    exact ra_ireturn rfl rfl ⟨⟨_, (by first | omega | (unfold ra_in at *; omega)), (by omega), rfl⟩, rfl⟩
theorem s5_93 {n : Nat} {f : Nat → Int32} {d : Nat} {D i : Nat} {σ : ra_V} (hD : isD D) (hi : i < 8) (hT : x5CT τ σ D) (hW : x5W2 τ) (he : wq τ i 0 = 1) : ra_C (g_Gs n f) g_sh 0 (d + 1) 93 [.index (D + 5 + i)] σ (fun r9 s => r9 = .inl (some (ra_I (wq τ i 1 + wq τ i 2))) ∧ s = σ) := by
  refine ra_enter (nn := 0) mt_93 rfl (Nat.le_of_ble_eq_true rfl) rfl (fun h => absurd h (by decide +kernel)) ?_
  have hp := x5CT_p hT hi he
  have hpw := WF_p hW.1 (p := (i : Int)) (by omega) (by omega) he
  have hwa := WF_a hW.1
  unfold WFa at hwa
  refine ra_load rfl rfl rfl rfl ?_
  refine ra_getI rfl lk_5_15 (Nat.zero_le _) (sh_P hD hi) rfl ?_
  rw [show (ra_g σ (D + 5 + i) 1) = wq τ i 1 from hp.1]
  have hr1 : ra_in (wq τ i 1) := (ra_in_wq _ _ _)
  refine ra_load rfl rfl rfl rfl ?_
  refine ra_getI rfl lk_5_18 (Nat.zero_le _) (sh_P hD hi) rfl ?_
  rw [show (ra_g σ (D + 5 + i) 2) = wq τ i 2 from hp.2.1]
  have hr2 : ra_in (wq τ i 2) := (ra_in_wq _ _ _)
  refine ra_iadd rfl ?_
  exact ra_ireturn rfl rfl ⟨(congrArg (fun z => Sum.inl (some (ra_I z))) rfl), rfl⟩
theorem s5_67 {n : Nat} {f : Nat → Int32} {d : Nat} {D : Nat} {σ : ra_V} (hD : isD D) (hT : x5CT τ σ D) : ra_C (g_Gs n f) g_sh 0 (d + 1) 67 [.index (D + 3)] σ (fun r9 s => (∃ z : Int, (z = 0 ∨ z = 1) ∧ (z = 1 ↔ ra_g τ 180 16 ≠ -1) ∧ r9 = .inl (some (ra_I z))) ∧ s = σ) := by
  refine ra_enter (nn := 0) mt_67 rfl (Nat.le_of_ble_eq_true rfl) rfl (fun h => absurd h (by decide +kernel)) ?_
  have hon := x5CT_on hT
  refine ra_load rfl rfl rfl rfl ?_
  refine ra_getI rfl lk_3_9 (Nat.zero_le _) (sh_D3 hD) rfl ?_
  rw [show (ra_g σ (D + 3) 0) = ra_g τ 180 16 from hon]
  have hr1 : ra_in (ra_g τ 180 16) := (ra_in_g _ _ _)
  refine ra_iconst rfl ?_
  refine ra_iceq rfl rfl hr1 (by first | omega | (unfold ra_in at *; omega)) (fun h2 => ?_) (fun h2 => ?_)
  · refine ra_iconst rfl ?_
    exact ra_ireturn rfl (ra_okB (Or.inl rfl)) ⟨⟨_, (Or.inl rfl), (by omega), rfl⟩, rfl⟩
  · refine ra_iconst rfl ?_
    refine ra_goto rfl rfl ?_
    exact ra_ireturn rfl (ra_okB (Or.inr rfl)) ⟨⟨_, (Or.inr rfl), (by omega), rfl⟩, rfl⟩
theorem s5_80 {n : Nat} {f : Nat → Int32} {d : Nat} {D : Nat} {σ : ra_V} (hD : isD D) (hT : x5CT τ σ D) (hW : x5W2 τ) (hmon : ra_g τ 180 16 ≠ -1) (hs20 : ra_g τ 180 20 ≠ -1) : ra_C (g_Gs n f) g_sh 0 (d + 1) 80 [.index (D + 3)] σ (fun r9 s => r9 = .inl (some (ra_I (min (ra_g τ 180 19) (msz τ)))) ∧ s = σ) := by
  refine ra_enter (nn := 0) mt_80 rfl (Nat.le_of_ble_eq_true rfl) rfl (fun h => absurd h (by decide +kernel)) ?_
  have hm := x5CT_m hT hmon
  have hmf := MV_f hW.1 hmon
  unfold MF at hmf
  refine ra_load rfl rfl rfl rfl ?_
  refine ra_getI rfl lk_3_15 (Nat.zero_le _) (sh_D3 hD) rfl ?_
  rw [show (ra_g σ (D + 3) 6) = ra_g τ 180 20 from hm.2.2.2.2.2.1]
  have hr1 : ra_in (ra_g τ 180 20) := (ra_in_g _ _ _)
  refine ra_iconst rfl ?_
  refine ra_icne rfl rfl hr1 (by first | omega | (unfold ra_in at *; omega)) (fun h2 => ?_) (fun h2 => ?_)
  · refine ra_load rfl rfl rfl rfl ?_
    refine ra_getI rfl lk_3_27 (Nat.zero_le _) (sh_D3 hD) rfl ?_
    rw [show (ra_g σ (D + 3) 4) = ra_g τ 180 19 from hm.2.2.2.1]
    have hr3 : ra_in (ra_g τ 180 19) := (ra_in_g _ _ _)
    refine ra_load rfl rfl rfl rfl ?_
    refine ra_getI rfl lk_3_18 (Nat.zero_le _) (sh_D3 hD) rfl ?_
    rw [show (ra_g σ (D + 3) 1) = msz τ from hm.1]
    have hr4 : ra_in (msz τ) := (ra_in_wq _ _ _)
    refine ra_min rfl lk_3_72 hr3 hr4 (Nat.le_of_ble_eq_true rfl) ?_
    exact ra_ireturn rfl rfl ⟨(congrArg (fun z => Sum.inl (some (ra_I z))) (by omega)), rfl⟩
  · refine ra_iconst rfl ?_
    refine ra_goto rfl rfl ?_
    exact ra_ireturn rfl rfl ⟨(congrArg (fun z => Sum.inl (some (ra_I z))) (by omega)), rfl⟩
theorem s5_81 {n : Nat} {f : Nat → Int32} {d : Nat} {D : Nat} {x0 : Int} {x1 : Int} {σ : ra_V} (hD : isD D) (hx0 : ra_in x0) (hx1 : ra_in x1) (hT : x5CT τ σ D) (hW : x5W2 τ) (hx1p : 1 ≤ x1) : ra_C (g_Gs n f) g_sh 0 (d + 2) 81 [.index (D + 3), ra_J x0, ra_J x1] σ (fun r9 s => (∃ z : Int, (z = 0 ∨ z = 1) ∧ (z = 1 ↔ x5BSY τ x0 x1) ∧ r9 = .inl (some (ra_I z))) ∧ s = σ) := by
  refine ra_enter (nn := 0) mt_81 rfl (Nat.le_of_ble_eq_true rfl) rfl (fun h => absurd h (by decide +kernel)) ?_
  have hon := x5CT_on hT
  refine ra_load rfl rfl rfl rfl ?_
  refine ra_cQPp (s5_67 hD (by first | assumption | rfl | omega)) rfl (ct_67 rfl lk_3_65 (Or.inl rfl) (sh_D3 hD) (Nat.le_of_ble_eq_true rfl)) (fun z2 hz2 hz2p => ?_)
  refine ra_ifeq rfl rfl (ra_in01 hz2) (fun h3 => ?_) (fun h3 => ?_)
  · refine ra_iconst rfl ?_
    exact ra_ireturn rfl (ra_okB (Or.inl rfl)) ⟨⟨_, (Or.inl rfl), (by unfold x5BSY; constructor <;> intro q <;> omega), rfl⟩, rfl⟩
  · have hmon : ra_g τ 180 16 ≠ -1 := hz2p.mp (by omega)
    have hm := x5CT_m hT hmon
    have hmf := MV_f hW.1 hmon
    unfold MF at hmf
    refine ra_load rfl rfl rfl rfl ?_
    refine ra_getI rfl lk_3_24 (Nat.zero_le _) (sh_D3 hD) rfl ?_
    rw [show (ra_g σ (D + 3) 3) = ra_g τ 180 18 from hm.2.2.1]
    have hr4 : ra_in (ra_g τ 180 18) := (ra_in_g _ _ _)
    refine ra_i2l rfl hr4 ?_
    refine ra_load rfl rfl rfl rfl ?_
    refine ra_getI rfl lk_3_18 (Nat.zero_le _) (sh_D3 hD) rfl ?_
    rw [show (ra_g σ (D + 3) 1) = msz τ from hm.1]
    have hr5 : ra_in (msz τ) := (ra_in_wq _ _ _)
    refine ra_i2l rfl hr5 ?_
    refine ra_load rfl rfl rfl rfl ?_
    refine ra_load rfl rfl rfl rfl ?_
    refine ra_cTp (s5_185 hr4 hr5 hx0 hx1) rfl (ct_185 rfl lk_3_77 (Or.inr ⟨rfl, rfl⟩) (Nat.le_of_ble_eq_true rfl)) ?_
    refine ra_ifneB rfl rfl (fun h7 => ?_) (fun h7 => ?_)
    · refine ra_iconst rfl ?_
      refine ra_goto rfl rfl ?_
      exact ra_ireturn rfl (ra_okB (Or.inr rfl)) ⟨⟨_, (Or.inr rfl), (by unfold x5BSY; constructor <;> intro q <;> omega), rfl⟩, rfl⟩
    · refine ra_load rfl rfl rfl rfl ?_
      refine ra_getI rfl lk_3_15 (Nat.zero_le _) (sh_D3 hD) rfl ?_
      rw [show (ra_g σ (D + 3) 6) = ra_g τ 180 20 from hm.2.2.2.2.2.1]
      have hr8 : ra_in (ra_g τ 180 20) := (ra_in_g _ _ _)
      refine ra_iconst rfl ?_
      refine ra_iceq rfl rfl hr8 (by first | omega | (unfold ra_in at *; omega)) (fun h9 => ?_) (fun h9 => ?_)
      · refine ra_iconst rfl ?_
        exact ra_ireturn rfl (ra_okB (Or.inl rfl)) ⟨⟨_, (Or.inl rfl), (by unfold x5BSY; constructor <;> intro q <;> omega), rfl⟩, rfl⟩
      · refine ra_load rfl rfl rfl rfl ?_
        refine ra_getI rfl lk_3_15 (Nat.zero_le _) (sh_D3 hD) rfl ?_
        rw [show (ra_g σ (D + 3) 6) = ra_g τ 180 20 from hm.2.2.2.2.2.1]
        have hr10 : ra_in (ra_g τ 180 20) := (ra_in_g _ _ _)
        refine ra_i2l rfl hr10 ?_
        refine ra_load rfl rfl rfl rfl ?_
        refine ra_cTp (s5_80 hD (by first | assumption | rfl | omega) (by first | assumption | rfl | omega) (by first | assumption | rfl | omega) (by first | assumption | rfl | omega)) rfl (ct_80 rfl lk_3_81 (Or.inl rfl) (sh_D3 hD) (Nat.le_of_ble_eq_true rfl)) ?_
        have hr12 : ra_in (min (ra_g τ 180 19) (msz τ)) := (x5min_in (ra_in_g _ _ _) (ra_in_wq _ _ _))
        refine ra_i2l rfl hr12 ?_
        refine ra_load rfl rfl rfl rfl ?_
        refine ra_load rfl rfl rfl rfl ?_
        refine ra_cTp (s5_185 hr10 hr12 hx0 hx1) rfl (ct_185 rfl lk_3_77 (Or.inr ⟨rfl, rfl⟩) (Nat.le_of_ble_eq_true rfl)) ?_
        refine ra_ifeqB rfl rfl (fun h14 => ?_) (fun h14 => ?_)
        · refine ra_iconst rfl ?_
          exact ra_ireturn rfl (ra_okB (Or.inl rfl)) ⟨⟨_, (Or.inl rfl), (by unfold x5BSY; constructor <;> intro q <;> omega), rfl⟩, rfl⟩
        · refine ra_iconst rfl ?_
          refine ra_goto rfl rfl ?_
          exact ra_ireturn rfl (ra_okB (Or.inr rfl)) ⟨⟨_, (Or.inr rfl), (by unfold x5BSY; constructor <;> intro q <;> omega), rfl⟩, rfl⟩
theorem s5_71 {n : Nat} {f : Nat → Int32} {d : Nat} {D : Nat} {σ : ra_V} (hD : isD D) (hT : x5CT τ σ D) (hW : x5W2 τ) (hmon : ra_g τ 180 16 ≠ -1) : ra_C (g_Gs n f) g_sh 0 (d + 1) 71 [.index (D + 3)] σ (fun r9 s => r9 = .inl (some (ra_I (rnx τ))) ∧ s = σ) := by
  refine ra_enter (nn := 0) mt_71 rfl (Nat.le_of_ble_eq_true rfl) rfl (fun h => absurd h (by decide +kernel)) ?_
  have hm := x5CT_m hT hmon
  have hmf := MV_f hW.1 hmon
  unfold MF at hmf
  refine ra_load rfl rfl rfl rfl ?_
  refine ra_getI rfl lk_3_24 (Nat.zero_le _) (sh_D3 hD) rfl ?_
  rw [show (ra_g σ (D + 3) 3) = ra_g τ 180 18 from hm.2.2.1]
  have hr1 : ra_in (ra_g τ 180 18) := (ra_in_g _ _ _)
  refine ra_load rfl rfl rfl rfl ?_
  refine ra_getI rfl lk_3_21 (Nat.zero_le _) (sh_D3 hD) rfl ?_
  rw [show (ra_g σ (D + 3) 2) = ra_g τ 180 17 from hm.2.1]
  have hr2 : ra_in (ra_g τ 180 17) := (ra_in_g _ _ _)
  refine ra_icge rfl rfl hr1 hr2 (fun h3 => ?_) (fun h3 => ?_)
  · refine ra_load rfl rfl rfl rfl ?_
    refine ra_getI rfl lk_3_30 (Nat.zero_le _) (sh_D3 hD) rfl ?_
    rw [show (ra_g σ (D + 3) 5) = rch τ from hm.2.2.2.2.1]
    have hr4 : ra_in (rch τ) := (x5rch_in hW hmon)
    refine ra_iconst rfl ?_
    refine ra_isub rfl ?_
    refine ra_load rfl rfl rfl rfl ?_
    refine ra_getI rfl lk_3_33 (Nat.zero_le _) (sh_D3 hD) rfl ?_
    rw [show (ra_g σ (D + 3) 7) = ra_g τ 180 21 from hm.2.2.2.2.2.2.1]
    have hr5 : ra_in (ra_g τ 180 21) := (ra_in_g _ _ _)
    refine ra_isub rfl ?_
    exact ra_ireturn rfl rfl ⟨(congrArg (fun z => Sum.inl (some (ra_I z))) (by unfold rnx; first | rw [if_pos (by omega)] | rw [if_neg (by omega)])), rfl⟩
  · refine ra_load rfl rfl rfl rfl ?_
    refine ra_getI rfl lk_3_33 (Nat.zero_le _) (sh_D3 hD) rfl ?_
    rw [show (ra_g σ (D + 3) 7) = ra_g τ 180 21 from hm.2.2.2.2.2.2.1]
    have hr6 : ra_in (ra_g τ 180 21) := (ra_in_g _ _ _)
    refine ra_goto rfl rfl ?_
    exact ra_ireturn rfl rfl ⟨(congrArg (fun z => Sum.inl (some (ra_I z))) (by unfold rnx; first | rw [if_pos (by omega)] | rw [if_neg (by omega)])), rfl⟩
theorem s5_72 {n : Nat} {f : Nat → Int32} {d : Nat} {D : Nat} {σ : ra_V} (hD : isD D) (hT : x5CT τ σ D) (hW : x5W2 τ) (hmon : ra_g τ 180 16 ≠ -1) : ra_C (g_Gs n f) g_sh 0 (d + 2) 72 [.index (D + 3)] σ (fun r9 s => r9 = .inl (some (ra_I (rfb τ))) ∧ s = σ) := by
  refine ra_enter (nn := 0) mt_72 rfl (Nat.le_of_ble_eq_true rfl) rfl (fun h => absurd h (by decide +kernel)) ?_
  have hm := x5CT_m hT hmon
  have hmf := MV_f hW.1 hmon
  unfold MF at hmf
  refine ra_load rfl rfl rfl rfl ?_
  refine ra_cTp (s5_71 hD (by first | assumption | rfl | omega) (by first | assumption | rfl | omega) (by first | assumption | rfl | omega)) rfl (ct_71 rfl lk_3_40 (Or.inl rfl) (sh_D3 hD) (Nat.le_of_ble_eq_true rfl)) ?_
  have hr2 : ra_in (rnx τ) := (by unfold ra_in; omega)
  refine ra_load rfl rfl rfl rfl ?_
  refine ra_getI rfl lk_3_27 (Nat.zero_le _) (sh_D3 hD) rfl ?_
  rw [show (ra_g σ (D + 3) 4) = ra_g τ 180 19 from hm.2.2.2.1]
  have hr3 : ra_in (ra_g τ 180 19) := (ra_in_g _ _ _)
  refine ra_imul rfl ?_
  exact ra_ireturn rfl rfl ⟨(congrArg (fun z => Sum.inl (some (ra_I z))) rfl), rfl⟩
theorem s5_69 {n : Nat} {f : Nat → Int32} {d : Nat} {D : Nat} {x0 : Int} {σ : ra_V} (hD : isD D) (hx0 : ra_in x0) (hT : x5CT τ σ D) (hW : x5W2 τ) (hmon : ra_g τ 180 16 ≠ -1) (hx : 0 ≤ x0 ∧ x0 < rch τ) : ra_C (g_Gs n f) g_sh 0 (d + 1) 69 [.index (D + 3), ra_I x0] σ (fun r9 s => r9 = .inl (some (ra_I (min (ra_g τ 180 19) (msz τ - x0 * ra_g τ 180 19)))) ∧ s = σ) := by
  refine ra_enter (nn := 1) mt_69 rfl (Nat.le_of_ble_eq_true rfl) rfl (fun h => absurd h (by decide +kernel)) ?_
  have hm := x5CT_m hT hmon
  have hmf := MV_f hW.1 hmon
  unfold MF at hmf
  have hcb := (ref_chunks_b (m := msz τ) (c := ra_g τ 180 19) (k := x0) (by omega) (by omega)).2.2 (by omega) hx.2
  refine ra_load rfl rfl rfl rfl ?_
  refine ra_getI rfl lk_3_18 (Nat.zero_le _) (sh_D3 hD) rfl ?_
  rw [show (ra_g σ (D + 3) 1) = msz τ from hm.1]
  have hr1 : ra_in (msz τ) := (ra_in_wq _ _ _)
  refine ra_load rfl rfl rfl rfl ?_
  refine ra_load rfl rfl rfl rfl ?_
  refine ra_getI rfl lk_3_27 (Nat.zero_le _) (sh_D3 hD) rfl ?_
  rw [show (ra_g σ (D + 3) 4) = ra_g τ 180 19 from hm.2.2.2.1]
  have hr2 : ra_in (ra_g τ 180 19) := (ra_in_g _ _ _)
  refine ra_imul rfl ?_
  refine ra_isub rfl ?_
  refine ra_store (L' := [_, _, _]) rfl rfl rfl (Nat.le_of_ble_eq_true rfl) rfl ?_
  refine ra_load rfl rfl rfl rfl ?_
  refine ra_load rfl rfl rfl rfl ?_
  refine ra_getI rfl lk_3_27 (Nat.zero_le _) (sh_D3 hD) rfl ?_
  rw [show (ra_g σ (D + 3) 4) = ra_g τ 180 19 from hm.2.2.2.1]
  have hr3 : ra_in (ra_g τ 180 19) := (ra_in_g _ _ _)
  refine ra_icge rfl rfl (by first | omega | (unfold ra_in at *; omega)) hr3 (fun h4 => ?_) (fun h4 => ?_)
  · refine ra_load rfl rfl rfl rfl ?_
    refine ra_getI rfl lk_3_27 (Nat.zero_le _) (sh_D3 hD) rfl ?_
    rw [show (ra_g σ (D + 3) 4) = ra_g τ 180 19 from hm.2.2.2.1]
    have hr5 : ra_in (ra_g τ 180 19) := (ra_in_g _ _ _)
    exact ra_ireturn rfl rfl ⟨(congrArg (fun z => Sum.inl (some (ra_I z))) (by omega)), rfl⟩
  · refine ra_load rfl rfl rfl rfl ?_
    refine ra_goto rfl rfl ?_
    exact ra_ireturn rfl rfl ⟨(congrArg (fun z => Sum.inl (some (ra_I z))) (by omega)), rfl⟩
theorem s5_73 {n : Nat} {f : Nat → Int32} {d : Nat} {D : Nat} {σ : ra_V} (hD : isD D) (hT : x5CT τ σ D) (hW : x5W2 τ) (hmon : ra_g τ 180 16 ≠ -1) : ra_C (g_Gs n f) g_sh 0 (d + 2) 73 [.index (D + 3)] σ (fun r9 s => r9 = .inl (some (ra_I (rbn τ))) ∧ s = σ) := by
  refine ra_enter (nn := 0) mt_73 rfl (Nat.le_of_ble_eq_true rfl) rfl (fun h => absurd h (by decide +kernel)) ?_
  have hm := x5CT_m hT hmon
  have hmf := MV_f hW.1 hmon
  unfold MF at hmf
  have hfb : rfb τ = rnx τ * ra_g τ 180 19 := rfl
  refine ra_load rfl rfl rfl rfl ?_
  refine ra_load rfl rfl rfl rfl ?_
  refine ra_cTp (s5_71 hD (by first | assumption | rfl | omega) (by first | assumption | rfl | omega) (by first | assumption | rfl | omega)) rfl (ct_71 rfl lk_3_40 (Or.inl rfl) (sh_D3 hD) (Nat.le_of_ble_eq_true rfl)) ?_
  have hr2 : ra_in (rnx τ) := (by unfold ra_in; omega)
  refine ra_cTp (s5_69 hD hr2 (by first | assumption | rfl | omega) (by first | assumption | rfl | omega) (by first | assumption | rfl | omega) (by omega)) rfl (ct_69 rfl lk_3_44 (Or.inl rfl) (sh_D3 hD) (Nat.le_of_ble_eq_true rfl)) ?_
  have hr4 : ra_in (min (ra_g τ 180 19) (msz τ - (rnx τ) * ra_g τ 180 19)) := (by unfold ra_in; omega)
  exact ra_ireturn rfl rfl ⟨(congrArg (fun z => Sum.inl (some (ra_I z))) rfl), rfl⟩
theorem s5_74 {n : Nat} {f : Nat → Int32} {d : Nat} {D : Nat} {σ : ra_V} (hD : isD D) (hT : x5CT τ σ D) (hW : x5W2 τ) (hmon : ra_g τ 180 16 ≠ -1) : ra_C (g_Gs n f) g_sh 0 (d + 3) 74 [.index (D + 3)] σ (fun r9 s => (∃ z, ra_in z ∧ ((z = 0 ∨ z = 1 ∨ z = 2) ∧ (z = 0 ↔ rbn τ ≤ rds τ) ∧ (z = 2 → ra_g τ 180 22 = 1) ∧ (z = 1 → ra_g τ 180 22 ≠ 1)) ∧ r9 = .inl (some (ra_I z))) ∧ s = σ) := by
  refine ra_enter (nn := 0) mt_74 rfl (Nat.le_of_ble_eq_true rfl) rfl (fun h => absurd h (by decide +kernel)) ?_
  have hm := x5CT_m hT hmon
  have hmf := MV_f hW.1 hmon
  unfold MF at hmf
  have hk2 := hW.2.2 hmon
  have hd2 : rds τ = rfar (ra_g τ 180 17) (ra_g τ 180 18) := rfl
  refine ra_load rfl rfl rfl rfl ?_
  refine ra_getB rfl lk_3_36 (Nat.zero_le _) (sh_D3 hD) rfl ?_
  refine ra_ifeqB rfl rfl (fun h1 => ?_) (fun h1 => ?_)
  · refine ra_load rfl rfl rfl rfl ?_
    refine ra_cTp (s5_73 hD (by first | assumption | rfl | omega) (by first | assumption | rfl | omega) (by first | assumption | rfl | omega)) rfl (ct_73 rfl lk_3_48 (Or.inl rfl) (sh_D3 hD) (Nat.le_of_ble_eq_true rfl)) ?_
    have hr3 : ra_in (rbn τ) := (by unfold ra_in; omega)
    refine ra_load rfl rfl rfl rfl ?_
    refine ra_getI rfl lk_3_21 (Nat.zero_le _) (sh_D3 hD) rfl ?_
    rw [show (ra_g σ (D + 3) 2) = ra_g τ 180 17 from hm.2.1]
    have hr4 : ra_in (ra_g τ 180 17) := (ra_in_g _ _ _)
    refine ra_load rfl rfl rfl rfl ?_
    refine ra_getI rfl lk_3_24 (Nat.zero_le _) (sh_D3 hD) rfl ?_
    rw [show (ra_g σ (D + 3) 3) = ra_g τ 180 18 from hm.2.2.1]
    have hr5 : ra_in (ra_g τ 180 18) := (ra_in_g _ _ _)
    refine ra_cTp (s5_188 hr4 hr5 (by first | assumption | rfl | omega)) rfl (ct_188 rfl lk_3_51 (Or.inr ⟨rfl, rfl⟩) (Nat.le_of_ble_eq_true rfl)) ?_
    have hf7 := rfar_b (ra_g τ 180 17) (ra_g τ 180 18)
    have hr8 : ra_in (rfar (ra_g τ 180 17) (ra_g τ 180 18)) := (x5rfar_in (by omega) (by omega))
    refine ra_icle rfl rfl hr3 hr8 (fun h9 => ?_) (fun h9 => ?_)
    · refine ra_iconst rfl ?_
      exact ra_ireturn rfl rfl ⟨⟨_, (by first | omega | (unfold ra_in at *; omega)), (by omega), rfl⟩, rfl⟩
    · refine ra_iconst rfl ?_
      refine ra_goto rfl rfl ?_
      exact ra_ireturn rfl rfl ⟨⟨_, (by first | omega | (unfold ra_in at *; omega)), (by omega), rfl⟩, rfl⟩
  · refine ra_iconst rfl ?_
    exact ra_ireturn rfl rfl ⟨⟨_, (by first | omega | (unfold ra_in at *; omega)), (by omega), rfl⟩, rfl⟩
end
