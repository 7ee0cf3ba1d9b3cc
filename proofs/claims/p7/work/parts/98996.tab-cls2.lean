/-! T5: what the class answers (printed by wip/gen/c5.py) -/
section
variable {τ : ra_V}
theorem s5_9 {n : Nat} {f : Nat → Int32} {d : Nat} {D : Nat} {σ : ra_V} (hD : isD D) (hT : x5CT τ σ D) (hW : x5W2 τ) : ra_C (g_Gs n f) g_sh 0 (d + 1) 9 [.index (D)] σ (fun r9 s => r9 = .inl (some (ra_I (ra_g τ 180 0 - ra_g τ 180 2))) ∧ s = σ) := by
  refine ra_enter (nn := 0) mt_9 rfl (Nat.le_of_ble_eq_true rfl) rfl (fun h => absurd h (by decide +kernel)) ?_
  have hc := x5CT_s hT
  have hwa := WF_a hW.1
  unfold WFa at hwa
  refine ra_load rfl rfl rfl rfl ?_
  refine ra_getI rfl lk_0_34 (Nat.zero_le _) (sh_D hD) rfl ?_
  rw [show (ra_g σ (D) 4) = ra_g τ 180 0 from hc.1]
  have hr1 : ra_in (ra_g τ 180 0) := (ra_in_g _ _ _)
  refine ra_load rfl rfl rfl rfl ?_
  refine ra_getI rfl lk_0_41 (Nat.zero_le _) (sh_D hD) rfl ?_
  rw [show (ra_g σ (D) 6) = ra_g τ 180 2 from hc.2.2.1]
  have hr2 : ra_in (ra_g τ 180 2) := (ra_in_g _ _ _)
  refine ra_isub rfl ?_
  exact ra_ireturn rfl rfl ⟨(congrArg (fun z => Sum.inl (some (ra_I z))) rfl), rfl⟩
theorem s5_10 {n : Nat} {f : Nat → Int32} {d : Nat} {D : Nat} {x0 : Int} {x1 : Int} {σ : ra_V} (hD : isD D) (hx0 : ra_in x0) (hx1 : ra_in x1) (hT : x5CT τ σ D) (hW : x5W2 τ) : ra_C (g_Gs n f) g_sh 0 (d + 2) 10 [.index (D), ra_J x0, ra_J x1] σ (fun r9 s => (∃ z : Int, (z = 0 ∨ z = 1) ∧ (z = 1 ↔ US τ x0 x1) ∧ r9 = .inl (some (ra_I z))) ∧ s = σ) := by
  refine ra_enter (nn := 0) mt_10 rfl (Nat.le_of_ble_eq_true rfl) rfl (fun h => absurd h (by decide +kernel)) ?_
  have hc := x5CT_s hT
  have hwa := WF_a hW.1
  unfold WFa at hwa
  refine ra_load rfl rfl rfl rfl ?_
  refine ra_lconst0 rfl ?_
  refine ra_lcmp rfl (by unfold ra_in6; first | omega | (unfold ra_in at *; omega)) (by unfold ra_in6; first | omega | (unfold ra_in at *; omega)) ?_
  refine ra_ifle rfl rfl (ra_in_cmp _ _) (fun h1 => ?_) (fun h1 => ?_)
  · rw [ra_cmp_le] at h1
    refine ra_iconst rfl ?_
    exact ra_ireturn rfl (ra_okB (Or.inl rfl)) ⟨⟨_, (Or.inl rfl), (by unfold US; constructor <;> intro q <;> omega), rfl⟩, rfl⟩
  · rw [ra_cmp_gt] at h1
    refine ra_load rfl rfl rfl rfl ?_
    refine ra_load rfl rfl rfl rfl ?_
    refine ra_getI rfl lk_0_38 (Nat.zero_le _) (sh_D hD) rfl ?_
    rw [show (ra_g σ (D) 5) = ra_g τ 180 1 from hc.2.1]
    have hr2 : ra_in (ra_g τ 180 1) := (ra_in_g _ _ _)
    refine ra_i2l rfl hr2 ?_
    refine ra_lcmp rfl (by unfold ra_in6; first | omega | (unfold ra_in at *; omega)) (by unfold ra_in6; first | omega | (unfold ra_in at *; omega)) ?_
    refine ra_iflt rfl rfl (ra_in_cmp _ _) (fun h3 => ?_) (fun h3 => ?_)
    · rw [ra_cmp_lt] at h3
      refine ra_iconst rfl ?_
      exact ra_ireturn rfl (ra_okB (Or.inl rfl)) ⟨⟨_, (Or.inl rfl), (by unfold US; constructor <;> intro q <;> omega), rfl⟩, rfl⟩
    · rw [ra_cmp_ge] at h3
      refine ra_load rfl rfl rfl rfl ?_
      refine ra_load rfl rfl rfl rfl ?_
      refine ra_ladd rfl ?_
      refine ra_load rfl rfl rfl rfl ?_
      refine ra_cTp (s5_9 hD (by first | assumption | rfl | omega) (by first | assumption | rfl | omega)) rfl (ct_9 rfl lk_0_102 (Or.inl rfl) (sh_D hD) (Nat.le_of_ble_eq_true rfl)) ?_
      have hr5 : ra_in (ra_g τ 180 0 - ra_g τ 180 2) := (x5ue_in (by first | assumption | rfl | omega))
      refine ra_i2l rfl hr5 ?_
      refine ra_lcmp rfl (by unfold ra_in6; first | omega | (unfold ra_in at *; omega)) (by unfold ra_in6; first | omega | (unfold ra_in at *; omega)) ?_
      refine ra_ifgt rfl rfl (ra_in_cmp _ _) (fun h6 => ?_) (fun h6 => ?_)
      · rw [ra_cmp_gt] at h6
        refine ra_iconst rfl ?_
        exact ra_ireturn rfl (ra_okB (Or.inl rfl)) ⟨⟨_, (Or.inl rfl), (by unfold US; constructor <;> intro q <;> omega), rfl⟩, rfl⟩
      · rw [ra_cmp_le] at h6
        refine ra_iconst rfl ?_
        refine ra_goto rfl rfl ?_
        exact ra_ireturn rfl (ra_okB (Or.inr rfl)) ⟨⟨_, (Or.inr rfl), (by unfold US; constructor <;> intro q <;> omega), rfl⟩, rfl⟩
theorem s5_11 {n : Nat} {f : Nat → Int32} {d : Nat} {D : Nat} {x0 : Int} {σ : ra_V} (hD : isD D) (hx0 : ra_in x0) (hT : x5CT τ σ D) (hW : x5W2 τ) (h0 : 0 ≤ x0) : ra_C (g_Gs n f) g_sh 0 (d + 1) 11 [.index (D), ra_I x0] σ (fun r9 s => (∃ z : Int, (z = 0 ∨ z = 1) ∧ (z = 1 ↔ x0 % ra_g τ 180 3 = 0) ∧ r9 = .inl (some (ra_I z))) ∧ s = σ) := by
  refine ra_enter (nn := 0) mt_11 rfl (Nat.le_of_ble_eq_true rfl) rfl (fun h => absurd h (by decide +kernel)) ?_
  have hc := x5CT_s hT
  have hwa := WF_a hW.1
  unfold WFa at hwa
  refine ra_load rfl rfl rfl rfl ?_
  refine ra_getI rfl lk_0_44 (Nat.zero_le _) (sh_D hD) rfl ?_
  rw [show (ra_g σ (D) 7) = ra_g τ 180 3 from hc.2.2.2.1]
  have hr1 : ra_in (ra_g τ 180 3) := (ra_in_g _ _ _)
  refine ra_ifle rfl rfl hr1 (fun h2 => ?_) (fun h2 => ?_)
  · refine ra_iconst rfl ?_
    exact ra_ireturn rfl (ra_okB (Or.inl rfl)) ⟨⟨_, (Or.inl rfl), (by rw [← x5em_t h0]; constructor <;> intro q <;> omega), rfl⟩, rfl⟩
  · refine ra_load rfl rfl rfl rfl ?_
    refine ra_load rfl rfl rfl rfl ?_
    refine ra_getI rfl lk_0_44 (Nat.zero_le _) (sh_D hD) rfl ?_
    rw [show (ra_g σ (D) 7) = ra_g τ 180 3 from hc.2.2.2.1]
    have hr3 : ra_in (ra_g τ 180 3) := (ra_in_g _ _ _)
    refine ra_irem rfl hx0 hr3 (by omega) ?_
    refine ra_ifne rfl rfl (ra_in_tmod hx0 (by omega)) (fun h4 => ?_) (fun h4 => ?_)
    · refine ra_iconst rfl ?_
      exact ra_ireturn rfl (ra_okB (Or.inl rfl)) ⟨⟨_, (Or.inl rfl), (by rw [← x5em_t h0]; constructor <;> intro q <;> omega), rfl⟩, rfl⟩
    · refine ra_iconst rfl ?_
      refine ra_goto rfl rfl ?_
      exact ra_ireturn rfl (ra_okB (Or.inr rfl)) ⟨⟨_, (Or.inr rfl), (by rw [← x5em_t h0]; constructor <;> intro q <;> omega), rfl⟩, rfl⟩
theorem l5_12_17 {n : Nat} {f : Nat → Int32} {d : Nat} {D : Nat} {x0 : Int} {x1 : Int} {σ : ra_V} (hD : isD D) (hx0 : ra_in x0) (hx1 : ra_in x1) (hb : x4BD σ D) : ∀ (nn : Nat) (v5 : Int) (v8 : Int) (hv5_0 : ra_in v5) (hv5_1 : v5 = ((x5mskN (fun q => x4MT σ D x0 x1 q) v8.toNat : Nat) : Int)) (hv8_0 : 0 ≤ v8) (hv8_1 : v8 ≤ 8) (hm : ((8 - v8 : Int)).toNat < nn), ra_P (g_Gs n f) g_sh 0 (d + 1) g_m_X0_meeting 17 [none, some (ra_J x0), none, some (ra_J x1), none, some (ra_I v5), some (.index (D + 2)), some (ra_I ((8 : Nat) : Int)), some (ra_I v8), none] [] σ (fun r9 s => r9 = .inl (some (ra_I (((x5mskN (fun q => x4MT σ D x0 x1 q) 8 : Nat) : Int)))) ∧ s = σ) := by
  intro nn
  induction nn with
  | zero => intro v5 v8 hv5_0 hv5_1 hv8_0 hv8_1 hm; exact absurd hm (Nat.not_lt_zero _)
  | succ nn ih =>
    intro v5 v8 hv5_0 hv5_1 hv8_0 hv8_1 hm
    refine ra_load rfl rfl rfl rfl ?_
    refine ra_load rfl rfl rfl rfl ?_
    refine ra_icge rfl rfl (by first | omega | (unfold ra_in at *; omega)) (by first | omega | (unfold ra_in at *; omega)) (fun h1 => ?_) (fun h1 => ?_)
    · refine ra_load rfl rfl rfl rfl ?_
      exact ra_ireturn rfl rfl ⟨(congrArg (fun z => Sum.inl (some (ra_I z))) (by obtain rfl : v8 = 8 := (by omega); exact hv5_1)), rfl⟩
    · refine ra_load rfl rfl rfl rfl ?_
      refine ra_load rfl rfl rfl rfl ?_
      refine ra_aaload rfl (sh_D2 hD) rfl (by decide) (by first | omega | (unfold ra_in at *; omega)) (by first | omega | (unfold ra_in at *; omega)) (sh_pt (by first | omega | (unfold ra_in at *; omega)) (by first | omega | (unfold ra_in at *; omega))) rfl ?_
      have hi2 : v8.toNat < 8 := (by first | omega | (unfold ra_in at *; omega))
      refine ra_store (L' := [_, _, _, _, _, _, _, _, _, _]) rfl rfl rfl (Nat.le_of_ble_eq_true rfl) rfl ?_
      refine ra_load rfl rfl rfl rfl ?_
      refine ra_load rfl rfl rfl rfl ?_
      refine ra_load rfl rfl rfl rfl ?_
      refine ra_cTp (s4_95 hD hi2 hx0 hx1 (hb v8.toNat (by omega))) rfl (ct_95 rfl lk_0_106 (Or.inl rfl) (sh_P hD hi2) (Nat.le_of_ble_eq_true rfl)) ?_
      refine ra_ifeqB rfl rfl (fun h4 => ?_) (fun h4 => ?_)
      · refine ra_iinc (L' := [_, _, _, _, _, _, _, _, _, _]) rfl rfl (Nat.le_of_ble_eq_true rfl) rfl ?_
        refine ra_goto rfl rfl ?_
        exact ra_weak (by repeat' constructor) (ih v5 (v8 + 1) (by first | omega | (unfold ra_in at *; omega)) (by rw [show (v8 + 1).toNat = v8.toNat + 1 by omega, x5mskN_n (P := (fun q => x4MT σ D x0 x1 q)) (by first | assumption | (show ¬ x4MT σ D x0 x1 v8.toNat; assumption))]; exact hv5_1) (by first | omega | (unfold ra_in at *; omega)) (by first | omega | (unfold ra_in at *; omega)) (by first | omega | (unfold ra_in at *; omega)))
      · refine ra_load rfl rfl rfl rfl ?_
        refine ra_iconst rfl ?_
        refine ra_load rfl rfl rfl rfl ?_
        refine ra_getK rfl lk_0_91 (Nat.zero_le _) (sh_P hD hi2) rfl ?_
        refine ra_ishl rfl ?_
        refine ra_ior rfl ?_
        refine ra_store (L' := [_, _, _, _, _, _, _, _, _, _]) rfl rfl rfl (Nat.le_of_ble_eq_true rfl) rfl ?_
        refine ra_iinc (L' := [_, _, _, _, _, _, _, _, _, _]) rfl rfl (Nat.le_of_ble_eq_true rfl) rfl ?_
        refine ra_goto rfl rfl ?_
        exact ra_weak (by repeat' constructor) (ih (ra_op .ior v5 (ra_op .ishl (1) ((v8.toNat : Nat) : Int))) (v8 + 1) (ra_in_op _ _ _) (by rw [show (v8 + 1).toNat = v8.toNat + 1 by omega, x5mskN_y (P := (fun q => x4MT σ D x0 x1 q)) (by first | assumption | (show x4MT σ D x0 x1 v8.toNat; assumption)), hv5_1]; exact x5or_b v8.toNat (by omega) _ (x5mskN_lt _)) (by first | omega | (unfold ra_in at *; omega)) (by first | omega | (unfold ra_in at *; omega)) (by first | omega | (unfold ra_in at *; omega)))
theorem s5_12 {n : Nat} {f : Nat → Int32} {d : Nat} {D : Nat} {x0 : Int} {x1 : Int} {σ : ra_V} (hD : isD D) (hx0 : ra_in x0) (hx1 : ra_in x1) (hb : x4BD σ D) : ra_C (g_Gs n f) g_sh 0 (d + 2) 12 [.index (D), ra_J x0, ra_J x1] σ (fun r9 s => r9 = .inl (some (ra_I (((x5mskN (fun q => x4MT σ D x0 x1 q) 8 : Nat) : Int)))) ∧ s = σ) := by
  refine ra_enter (nn := 5) mt_12 rfl (Nat.le_of_ble_eq_true rfl) rfl (fun h => absurd h (by decide +kernel)) ?_
  refine ra_iconst rfl ?_
  refine ra_store (L' := [_, _, _, _, _, _, _, _, _, _]) rfl rfl rfl (Nat.le_of_ble_eq_true rfl) rfl ?_
  refine ra_load rfl rfl rfl rfl ?_
  refine ra_getR rfl lk_0_17 (Nat.zero_le _) (sh_D hD) rfl ?_
  refine ra_store (L' := [_, _, _, _, _, _, _, _, _, _]) rfl rfl rfl (Nat.le_of_ble_eq_true rfl) rfl ?_
  refine ra_load rfl rfl rfl rfl ?_
  refine ra_alen rfl (sh_D2 hD) rfl ?_
  refine ra_store (L' := [_, _, _, _, _, _, _, _, _, _]) rfl rfl rfl (Nat.le_of_ble_eq_true rfl) rfl ?_
  refine ra_iconst rfl ?_
  refine ra_store (L' := [_, _, _, _, _, _, _, _, _, _]) rfl rfl rfl (Nat.le_of_ble_eq_true rfl) rfl ?_
  exact ra_weak (by repeat' constructor) (l5_12_17 hD hx0 hx1 hb _ (0) (0) (by first | omega | (unfold ra_in at *; omega)) rfl (by first | omega | (unfold ra_in at *; omega)) (by first | omega | (unfold ra_in at *; omega)) (Nat.lt_succ_self _))
theorem s5_13 {n : Nat} {f : Nat → Int32} {d : Nat} {D : Nat} {i0 : Nat} {x1 : Int} {x2 : Int} {σ : ra_V} (hD : isD D) (hi0 : i0 < 8) (hx1 : ra_in x1) (hx2 : ra_in x2) (hT : x5CT τ σ D) (hW : x5W2 τ) : ra_C (g_Gs n f) g_sh 0 (d + 3) 13 [.index (D), .index (D + 5 + i0), ra_I x1, ra_I x2] σ (fun r9 s => (∃ z, ra_in z ∧ (z ≠ 0 ↔ TK τ x1 x2 i0) ∧ r9 = .inl (some (ra_I z))) ∧ s = σ) := by
  refine ra_enter (nn := 0) mt_13 rfl (Nat.le_of_ble_eq_true rfl) rfl (fun h => absurd h (by decide +kernel)) ?_
  refine ra_load rfl rfl rfl rfl ?_
  refine ra_load rfl rfl rfl rfl ?_
  refine ra_i2l rfl hx1 ?_
  refine ra_load rfl rfl rfl rfl ?_
  refine ra_i2l rfl hx2 ?_
  refine ra_cTp (s5_12 hD hx1 hx2 (x5CT_bd hT hW.1)) rfl (ct_12 rfl lk_0_110 (Or.inl rfl) (sh_D hD) (Nat.le_of_ble_eq_true rfl)) ?_
  have hr2 : ra_in (((x5mskN (fun q => x4MT σ D x2 x2 q) 8 : Nat) : Int)) := (x5msk_in)
  refine ra_iconst rfl ?_
  refine ra_load rfl rfl rfl rfl ?_
  refine ra_getK rfl lk_0_91 (Nat.zero_le _) (sh_P hD hi0) rfl ?_
  refine ra_ishl rfl ?_
  refine ra_iconst rfl ?_
  refine ra_ixor rfl ?_
  refine ra_iand rfl ?_
  exact ra_ireturn rfl rfl ⟨⟨_, (ra_in_op _ _ _), (x5tk_o hT hi0), rfl⟩, rfl⟩
theorem s5_16 {n : Nat} {f : Nat → Int32} {d : Nat} {D : Nat} {x0 : Int} {x1 : Int} {σ : ra_V} (hD : isD D) (hx0 : ra_in x0) (hx1 : ra_in x1) (hT : x5CT τ σ D) (hW : x5W2 τ) : ra_C (g_Gs n f) g_sh 0 (d + 3) 16 [.index (D), ra_I x0, ra_I x1] σ (fun r9 s => r9 = .inl (some (ra_I (x5why τ x0 x1))) ∧ s = σ) := by
  refine ra_enter (nn := 0) mt_16 rfl (Nat.le_of_ble_eq_true rfl) rfl (fun h => absurd h (by decide +kernel)) ?_
  have hwa := WF_a hW.1
  unfold WFa at hwa
  refine ra_load rfl rfl rfl rfl ?_
  refine ra_load rfl rfl rfl rfl ?_
  refine ra_i2l rfl hx0 ?_
  refine ra_load rfl rfl rfl rfl ?_
  refine ra_i2l rfl hx1 ?_
  refine ra_cQPp (s5_10 hD hx0 hx1 (by first | assumption | rfl | omega) (by first | assumption | rfl | omega)) rfl (ct_10 rfl lk_0_134 (Or.inl rfl) (sh_D hD) (Nat.le_of_ble_eq_true rfl)) (fun z2 hz2 hz2p => ?_)
  refine ra_ifne rfl rfl (ra_in01 hz2) (fun h3 => ?_) (fun h3 => ?_)
  · refine ra_load rfl rfl rfl rfl ?_
    refine ra_load rfl rfl rfl rfl ?_
    refine ra_cQPp (s5_11 hD hx0 (by first | assumption | rfl | omega) (by first | assumption | rfl | omega) (by have hu9 := (hz2p.mp (by omega)); unfold US at hu9; omega)) rfl (ct_11 rfl lk_0_137 (Or.inl rfl) (sh_D hD) (Nat.le_of_ble_eq_true rfl)) (fun z5 hz5 hz5p => ?_)
    refine ra_ifne rfl rfl (ra_in01 hz5) (fun h6 => ?_) (fun h6 => ?_)
    · refine ra_load rfl rfl rfl rfl ?_
      refine ra_load rfl rfl rfl rfl ?_
      refine ra_i2l rfl hx0 ?_
      refine ra_load rfl rfl rfl rfl ?_
      refine ra_i2l rfl hx1 ?_
      refine ra_cTp (s5_12 hD hx0 hx1 (x5CT_bd hT hW.1)) rfl (ct_12 rfl lk_0_110 (Or.inl rfl) (sh_D hD) (Nat.le_of_ble_eq_true rfl)) ?_
      have hr8 : ra_in (((x5mskN (fun q => x4MT σ D x0 x1 q) 8 : Nat) : Int)) := (x5msk_in)
      refine ra_ifeq rfl rfl hr8 (fun h9 => ?_) (fun h9 => ?_)
      · refine ra_load rfl rfl rfl rfl ?_
        refine ra_getR rfl lk_0_24 (Nat.zero_le _) (sh_D hD) rfl ?_
        refine ra_load rfl rfl rfl rfl ?_
        refine ra_i2l rfl hx0 ?_
        refine ra_load rfl rfl rfl rfl ?_
        refine ra_i2l rfl hx1 ?_
        refine ra_cQPp (s5_81 hD hx0 hx1 (by first | assumption | rfl | omega) (by first | assumption | rfl | omega) (by have hu9 := (hz2p.mp (by omega)); unfold US at hu9; omega)) rfl (ct_81 rfl lk_0_141 (Or.inl rfl) (sh_D3 hD) (Nat.le_of_ble_eq_true rfl)) (fun z11 hz11 hz11p => ?_)
        refine ra_ifeq rfl rfl (ra_in01 hz11) (fun h12 => ?_) (fun h12 => ?_)
        · refine ra_iconst rfl ?_
          exact ra_ireturn rfl rfl ⟨(congrArg (fun z => Sum.inl (some (ra_I z))) (x5why_0 (hz2p.mp (by omega)) (hz5p.mp (by omega)) (fun q => absurd ((x5tk_m hT).mpr q) (by omega)) (fun q => absurd (hz11p.mpr q) (by omega)))), rfl⟩
        · refine ra_iconst rfl ?_
          refine ra_goto rfl rfl ?_
          exact ra_ireturn rfl rfl ⟨(congrArg (fun z => Sum.inl (some (ra_I z))) (x5why_4 (hz2p.mp (by omega)) (hz5p.mp (by omega)) (fun q => absurd ((x5tk_m hT).mpr q) (by omega)) (hz11p.mp (by omega)))), rfl⟩
      · refine ra_iconst rfl ?_
        exact ra_ireturn rfl rfl ⟨(congrArg (fun z => Sum.inl (some (ra_I z))) (x5why_3 (hz2p.mp (by omega)) (hz5p.mp (by omega)) ((x5tk_m hT).mp (by omega)))), rfl⟩
    · refine ra_iconst rfl ?_
      exact ra_ireturn rfl rfl ⟨(congrArg (fun z => Sum.inl (some (ra_I z))) (x5why_2 (hz2p.mp (by omega)) (fun q => absurd (hz5p.mpr q) (by omega)))), rfl⟩
  · refine ra_iconst rfl ?_
    exact ra_ireturn rfl rfl ⟨(congrArg (fun z => Sum.inl (some (ra_I z))) (x5why_1 (fun q => absurd (hz2p.mpr q) (by omega)))), rfl⟩
theorem s5_18 {n : Nat} {f : Nat → Int32} {d : Nat} {D : Nat} {i0 : Nat} {x1 : Int} {σ : ra_V} (hD : isD D) (hi0 : i0 < 8) (hx1 : ra_in x1) (hT : x5CT τ σ D) (hW : x5W2 τ) (he : wq τ i0 0 = 1) : ra_C (g_Gs n f) g_sh 0 (d + 4) 18 [.index (D), .index (D + 5 + i0), ra_I x1] σ (fun r9 s => r9 = .inl (some (ra_I (x5whyS τ i0 x1))) ∧ s = σ) := by
  refine ra_enter (nn := 0) mt_18 rfl (Nat.le_of_ble_eq_true rfl) rfl (fun h => absurd h (by decide +kernel)) ?_
  have hc := x5CT_s hT
  have hwa := WF_a hW.1
  unfold WFa at hwa
  have hp := x5CT_p hT hi0 he
  have hpw := WF_p hW.1 (p := (i0 : Int)) (by omega) (by omega) he
  refine ra_load rfl rfl rfl rfl ?_
  refine ra_load rfl rfl rfl rfl ?_
  refine ra_getI rfl lk_0_148 (Nat.zero_le _) (sh_P hD hi0) rfl ?_
  rw [show (ra_g σ (D + 5 + i0) 3) = wq τ i0 3 from hp.2.2.1]
  have hr1 : ra_in (wq τ i0 3) := (ra_in_wq _ _ _)
  refine ra_icge rfl rfl hx1 hr1 (fun h2 => ?_) (fun h2 => ?_)
  · refine ra_load rfl rfl rfl rfl ?_
    refine ra_load rfl rfl rfl rfl ?_
    refine ra_getI rfl lk_0_85 (Nat.zero_le _) (sh_P hD hi0) rfl ?_
    rw [show (ra_g σ (D + 5 + i0) 1) = wq τ i0 1 from hp.1]
    have hr3 : ra_in (wq τ i0 1) := (ra_in_wq _ _ _)
    refine ra_i2l rfl hr3 ?_
    refine ra_load rfl rfl rfl rfl ?_
    refine ra_i2l rfl hx1 ?_
    refine ra_cQPp (s5_10 hD hr3 hx1 (by first | assumption | rfl | omega) (by first | assumption | rfl | omega)) rfl (ct_10 rfl lk_0_134 (Or.inl rfl) (sh_D hD) (Nat.le_of_ble_eq_true rfl)) (fun z5 hz5 hz5p => ?_)
    refine ra_ifne rfl rfl (ra_in01 hz5) (fun h6 => ?_) (fun h6 => ?_)
    · refine ra_load rfl rfl rfl rfl ?_
      refine ra_load rfl rfl rfl rfl ?_
      refine ra_load rfl rfl rfl rfl ?_
      refine ra_getI rfl lk_0_85 (Nat.zero_le _) (sh_P hD hi0) rfl ?_
      rw [show (ra_g σ (D + 5 + i0) 1) = wq τ i0 1 from hp.1]
      have hr7 : ra_in (wq τ i0 1) := (ra_in_wq _ _ _)
      refine ra_load rfl rfl rfl rfl ?_
      refine ra_cIPp (s5_13 hD hi0 hr7 hx1 (by first | assumption | rfl | omega) (by first | assumption | rfl | omega)) rfl (ct_13 rfl lk_0_151 (Or.inl rfl) (sh_D hD) (Nat.le_of_ble_eq_true rfl)) (fun z9 hz9 hz9p => ?_)
      refine ra_ifeq rfl rfl hz9 (fun h10 => ?_) (fun h10 => ?_)
      · refine ra_load rfl rfl rfl rfl ?_
        refine ra_load rfl rfl rfl rfl ?_
        refine ra_getI rfl lk_0_65 (Nat.zero_le _) (sh_P hD hi0) rfl ?_
        rw [show (ra_g σ (D + 5 + i0) 2) = wq τ i0 2 from hp.2.1]
        have hr11 : ra_in (wq τ i0 2) := (ra_in_wq _ _ _)
        refine ra_icle rfl rfl hx1 hr11 (fun h12 => ?_) (fun h12 => ?_)
        · refine ra_iconst rfl ?_
          exact ra_ireturn rfl rfl ⟨(congrArg (fun z => Sum.inl (some (ra_I z))) (x5whyS_0 (by omega) (hz5p.mp (by omega)) (fun q => absurd (hz9p.mpr q) (by omega)) (fun q => absurd q.2.1 (by omega)))), rfl⟩
        · refine ra_load rfl rfl rfl rfl ?_
          refine ra_getR rfl lk_0_24 (Nat.zero_le _) (sh_D hD) rfl ?_
          refine ra_load rfl rfl rfl rfl ?_
          refine ra_cTp (s5_93 hD hi0 (by first | assumption | rfl | omega) (by first | assumption | rfl | omega) (by first | assumption | rfl | omega)) rfl (ct_93 rfl lk_0_114 (Or.inl rfl) (sh_P hD hi0) (Nat.le_of_ble_eq_true rfl)) ?_
          have hr14 : ra_in (wq τ i0 1 + wq τ i0 2) := (by unfold ra_in; omega)
          refine ra_i2l rfl hr14 ?_
          refine ra_load rfl rfl rfl rfl ?_
          refine ra_load rfl rfl rfl rfl ?_
          refine ra_getI rfl lk_0_65 (Nat.zero_le _) (sh_P hD hi0) rfl ?_
          rw [show (ra_g σ (D + 5 + i0) 2) = wq τ i0 2 from hp.2.1]
          have hr15 : ra_in (wq τ i0 2) := (ra_in_wq _ _ _)
          refine ra_isub rfl ?_
          refine ra_i2l rfl (by first | omega | (unfold ra_in at *; omega)) ?_
          refine ra_cQPp (s5_81 hD hr14 (by first | omega | (unfold ra_in at *; omega)) (by first | assumption | rfl | omega) (by first | assumption | rfl | omega) (by omega)) rfl (ct_81 rfl lk_0_141 (Or.inl rfl) (sh_D3 hD) (Nat.le_of_ble_eq_true rfl)) (fun z17 hz17 hz17p => ?_)
          refine ra_ifeq rfl rfl (ra_in01 hz17) (fun h18 => ?_) (fun h18 => ?_)
          · refine ra_iconst rfl ?_
            exact ra_ireturn rfl rfl ⟨(congrArg (fun z => Sum.inl (some (ra_I z))) (x5whyS_0 (by omega) (hz5p.mp (by omega)) (fun q => absurd (hz9p.mpr q) (by omega)) (fun q => absurd (hz17p.mpr q) (by omega)))), rfl⟩
          · refine ra_bipush rfl (by decide) ?_
            refine ra_goto rfl rfl ?_
            exact ra_ireturn rfl rfl ⟨(congrArg (fun z => Sum.inl (some (ra_I z))) (x5whyS_6 (by omega) (hz5p.mp (by omega)) (fun q => absurd (hz9p.mpr q) (by omega)) (hz17p.mp (by omega)))), rfl⟩
      · refine ra_iconst rfl ?_
        exact ra_ireturn rfl rfl ⟨(congrArg (fun z => Sum.inl (some (ra_I z))) (x5whyS_5 (by omega) (hz5p.mp (by omega)) (hz9p.mp (by omega)))), rfl⟩
    · refine ra_iconst rfl ?_
      exact ra_ireturn rfl rfl ⟨(congrArg (fun z => Sum.inl (some (ra_I z))) (x5whyS_4 (by omega) (fun q => absurd (hz5p.mpr q) (by omega)))), rfl⟩
  · refine ra_iconst rfl ?_
    exact ra_ireturn rfl rfl ⟨(congrArg (fun z => Sum.inl (some (ra_I z))) (x5whyS_3 (by omega))), rfl⟩
theorem s5_7 {n : Nat} {f : Nat → Int32} {d : Nat} {D : Nat} {i0 : Nat} {σ : ra_V} (hD : isD D) (hi0 : i0 < 8) (hT : x5CT τ σ D) : ra_C (g_Gs n f) g_sh 0 (d + 1) 7 [.index (D), .index (D + 5 + i0)] σ (fun r9 s => (∃ z : Int, (z = 0 ∨ z = 1) ∧ (z = 1 ↔ ra_g τ 180 16 = i0) ∧ r9 = .inl (some (ra_I z))) ∧ s = σ) := by
  refine ra_enter (nn := 0) mt_7 rfl (Nat.le_of_ble_eq_true rfl) rfl (fun h => absurd h (by decide +kernel)) ?_
  have hon := x5CT_on hT
  refine ra_load rfl rfl rfl rfl ?_
  refine ra_getR rfl lk_0_24 (Nat.zero_le _) (sh_D hD) rfl ?_
  refine ra_getI rfl lk_0_88 (Nat.zero_le _) (sh_D3 hD) rfl ?_
  rw [show (ra_g σ (D + 3) 0) = ra_g τ 180 16 from hon]
  have hr1 : ra_in (ra_g τ 180 16) := (ra_in_g _ _ _)
  refine ra_load rfl rfl rfl rfl ?_
  refine ra_getK rfl lk_0_91 (Nat.zero_le _) (sh_P hD hi0) rfl ?_
  refine ra_icne rfl rfl hr1 (by first | omega | (unfold ra_in at *; omega)) (fun h2 => ?_) (fun h2 => ?_)
  · refine ra_iconst rfl ?_
    exact ra_ireturn rfl (ra_okB (Or.inl rfl)) ⟨⟨_, (Or.inl rfl), (by omega), rfl⟩, rfl⟩
  · refine ra_iconst rfl ?_
    refine ra_goto rfl rfl ?_
    exact ra_ireturn rfl (ra_okB (Or.inr rfl)) ⟨⟨_, (Or.inr rfl), (by omega), rfl⟩, rfl⟩
theorem s5_8 {n : Nat} {f : Nat → Int32} {d : Nat} {D : Nat} {i0 : Nat} {σ : ra_V} (hD : isD D) (hi0 : i0 < 8) (hT : x5CT τ σ D) (hW : x5W2 τ) : ra_C (g_Gs n f) g_sh 0 (d + 2) 8 [.index (D), .index (D + 5 + i0)] σ (fun r9 s => (∃ z : Int, (z = 0 ∨ z = 1) ∧ (z = 1 ↔ (wq τ i0 0 = 1 ∧ wq τ i0 5 ≠ 1 ∧ ra_g τ 180 16 ≠ i0)) ∧ r9 = .inl (some (ra_I z))) ∧ s = σ) := by
  refine ra_enter (nn := 0) mt_8 rfl (Nat.le_of_ble_eq_true rfl) rfl (fun h => absurd h (by decide +kernel)) ?_
  have hep := x5CT_e hT hi0
  have hlk := hW.2.1 i0 (by omega) (by omega)
  have hl5 : wq τ i0 0 = 1 → ra_g σ (D + 5 + i0) 5 = wq τ i0 5 := fun q => (x5CT_p hT hi0 q).2.2.2.2.1
  refine ra_load rfl rfl rfl rfl ?_
  refine ra_cTp (s4_92 hD hi0) rfl (ct_92 rfl lk_0_81 (Or.inl rfl) (sh_P hD hi0) (Nat.le_of_ble_eq_true rfl)) ?_
  refine ra_ifeqB rfl rfl (fun h2 => ?_) (fun h2 => ?_)
  · refine ra_iconst rfl ?_
    exact ra_ireturn rfl (ra_okB (Or.inl rfl)) ⟨⟨_, (Or.inl rfl), (by omega), rfl⟩, rfl⟩
  · refine ra_load rfl rfl rfl rfl ?_
    refine ra_getB rfl lk_0_94 (Nat.zero_le _) (sh_P hD hi0) rfl ?_
    refine ra_ifneB rfl rfl (fun h3 => ?_) (fun h3 => ?_)
    · refine ra_iconst rfl ?_
      exact ra_ireturn rfl (ra_okB (Or.inl rfl)) ⟨⟨_, (Or.inl rfl), (by omega), rfl⟩, rfl⟩
    · refine ra_load rfl rfl rfl rfl ?_
      refine ra_load rfl rfl rfl rfl ?_
      refine ra_cQPp (s5_7 hD hi0 (by first | assumption | rfl | omega)) rfl (ct_7 rfl lk_0_98 (Or.inl rfl) (sh_D hD) (Nat.le_of_ble_eq_true rfl)) (fun z5 hz5 hz5p => ?_)
      refine ra_ifne rfl rfl (ra_in01 hz5) (fun h6 => ?_) (fun h6 => ?_)
      · refine ra_iconst rfl ?_
        exact ra_ireturn rfl (ra_okB (Or.inl rfl)) ⟨⟨_, (Or.inl rfl), (by omega), rfl⟩, rfl⟩
      · refine ra_iconst rfl ?_
        refine ra_goto rfl rfl ?_
        exact ra_ireturn rfl (ra_okB (Or.inr rfl)) ⟨⟨_, (Or.inr rfl), (by omega), rfl⟩, rfl⟩
theorem s5_17 {n : Nat} {f : Nat → Int32} {d : Nat} {D : Nat} {i0 : Nat} {x1 : Int} {σ : ra_V} (hD : isD D) (hi0 : i0 < 8) (hx1 : ra_in x1) (hT : x5CT τ σ D) (hW : x5W2 τ) (he : wq τ i0 0 = 1) : ra_C (g_Gs n f) g_sh 0 (d + 5) 17 [.index (D), .index (D + 5 + i0), ra_I x1] σ (fun r9 s => r9 = .inl (some (ra_I (x5whyR τ i0 x1))) ∧ s = σ) := by
  refine ra_enter (nn := 0) mt_17 rfl (Nat.le_of_ble_eq_true rfl) rfl (fun h => absurd h (by decide +kernel)) ?_
  have hc := x5CT_s hT
  have hwa := WF_a hW.1
  unfold WFa at hwa
  have hp := x5CT_p hT hi0 he
  have hpw := WF_p hW.1 (p := (i0 : Int)) (by omega) (by omega) he
  have hlk := hW.2.1 i0 (by omega) (by omega)
  refine ra_load rfl rfl rfl rfl ?_
  refine ra_getB rfl lk_0_94 (Nat.zero_le _) (sh_P hD hi0) rfl ?_
  refine ra_ifeqB rfl rfl (fun h1 => ?_) (fun h1 => ?_)
  · refine ra_load rfl rfl rfl rfl ?_
    refine ra_load rfl rfl rfl rfl ?_
    refine ra_cQPp (s5_7 hD hi0 (by first | assumption | rfl | omega)) rfl (ct_7 rfl lk_0_98 (Or.inl rfl) (sh_D hD) (Nat.le_of_ble_eq_true rfl)) (fun z3 hz3 hz3p => ?_)
    refine ra_ifeq rfl rfl (ra_in01 hz3) (fun h4 => ?_) (fun h4 => ?_)
    · refine ra_load rfl rfl rfl rfl ?_
      refine ra_load rfl rfl rfl rfl ?_
      refine ra_load rfl rfl rfl rfl ?_
      refine ra_cTp (s5_18 hD hi0 hx1 (by first | assumption | rfl | omega) (by first | assumption | rfl | omega) (by first | assumption | rfl | omega)) rfl (ct_18 rfl lk_0_144 (Or.inl rfl) (sh_D hD) (Nat.le_of_ble_eq_true rfl)) ?_
      exact ra_ireturn rfl rfl ⟨(congrArg (fun z => Sum.inl (some (ra_I z))) (x5whyR_s (by omega) (fun q => absurd (hz3p.mpr q) (by omega)))), rfl⟩
    · refine ra_iconst rfl ?_
      refine ra_goto rfl rfl ?_
      exact ra_ireturn rfl rfl ⟨(congrArg (fun z => Sum.inl (some (ra_I z))) (x5whyR_2 (by omega) (hz3p.mp (by omega)))), rfl⟩
  · refine ra_iconst rfl ?_
    exact ra_ireturn rfl rfl ⟨(congrArg (fun z => Sum.inl (some (ra_I z))) (x5whyR_1 (by omega))), rfl⟩
theorem s5_20 {n : Nat} {f : Nat → Int32} {d : Nat} {D : Nat} {i0 : Nat} {x1 : Int} {x2 : Int} {σ : ra_V} (hD : isD D) (hi0 : i0 < 8) (hx1 : ra_in x1) (hx2 : ra_in x2) (hT : x5CT τ σ D) (hW : x5W2 τ) (he : wq τ i0 0 = 1) (hto : -1000000 ≤ x1 ∧ x1 ≤ 1000000) : ra_C (g_Gs n f) g_sh 0 (d + 2) 20 [.index (D), .index (D + 5 + i0), ra_I x1, ra_I x2] σ (fun r9 s => (∃ z : Int, (z = 0 ∨ z = 1) ∧ (z = 1 ↔ rfar (wq τ i0 1) x1 < min x2 (wq τ i0 2)) ∧ r9 = .inl (some (ra_I z))) ∧ s = σ) := by
  refine ra_enter (nn := 0) mt_20 rfl (Nat.le_of_ble_eq_true rfl) rfl (fun h => absurd h (by decide +kernel)) ?_
  have hc := x5CT_s hT
  have hwa := WF_a hW.1
  unfold WFa at hwa
  have hp := x5CT_p hT hi0 he
  have hpw := WF_p hW.1 (p := (i0 : Int)) (by omega) (by omega) he
  refine ra_load rfl rfl rfl rfl ?_
  refine ra_load rfl rfl rfl rfl ?_
  refine ra_getI rfl lk_0_65 (Nat.zero_le _) (sh_P hD hi0) rfl ?_
  rw [show (ra_g σ (D + 5 + i0) 2) = wq τ i0 2 from hp.2.1]
  have hr1 : ra_in (wq τ i0 2) := (ra_in_wq _ _ _)
  refine ra_min rfl lk_0_129 hx2 hr1 (Nat.le_of_ble_eq_true rfl) ?_
  refine ra_load rfl rfl rfl rfl ?_
  refine ra_getI rfl lk_0_85 (Nat.zero_le _) (sh_P hD hi0) rfl ?_
  rw [show (ra_g σ (D + 5 + i0) 1) = wq τ i0 1 from hp.1]
  have hr2 : ra_in (wq τ i0 1) := (ra_in_wq _ _ _)
  refine ra_load rfl rfl rfl rfl ?_
  refine ra_cTp (s5_188 hr2 hx1 (by omega)) rfl (ct_188 rfl lk_0_165 (Or.inr ⟨rfl, rfl⟩) (Nat.le_of_ble_eq_true rfl)) ?_
  have hf4 := rfar_b (wq τ i0 1) x1
  have hr5 : ra_in (rfar (wq τ i0 1) x1) := (x5rfar_in (by omega) (by omega))
  refine ra_icle rfl rfl (by first | omega | (unfold ra_in at *; omega)) hr5 (fun h6 => ?_) (fun h6 => ?_)
  · refine ra_iconst rfl ?_
    exact ra_ireturn rfl (ra_okB (Or.inl rfl)) ⟨⟨_, (Or.inl rfl), (by omega), rfl⟩, rfl⟩
  · refine ra_iconst rfl ?_
    refine ra_goto rfl rfl ?_
    exact ra_ireturn rfl (ra_okB (Or.inr rfl)) ⟨⟨_, (Or.inr rfl), (by omega), rfl⟩, rfl⟩
end
