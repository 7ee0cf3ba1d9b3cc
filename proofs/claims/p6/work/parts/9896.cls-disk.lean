/-! T4: what the class's methods that read a text do (printed by wip/gen/c4.py) -/
section
variable {B : Nat → Int} {bn ps ta : Nat} {pk uv al : Int} {r : Nat → Int}
theorem s4_92 {n : Nat} {f : Nat → Int32} {d : Nat} {D i : Nat} {σ : ra_V} (hD : isD D) (hi : i < 8) : ra_C (g_Gs n f) g_sh 0 (d + 1) 92 [.index (D + 5 + i)] σ (fun r9 s => r9 = .inl (some (ra_B (0 < ra_g σ (D + 5 + i) 2))) ∧ s = σ) := by
  refine ra_enter (nn := 0) mt_92 rfl (Nat.le_of_ble_eq_true rfl) rfl (fun h => absurd h (by decide +kernel)) ?_
  refine ra_load rfl rfl rfl rfl ?_
  refine ra_getI rfl lk_5_18 (Nat.zero_le _) (sh_P hD hi) rfl ?_
  have hr1 : ra_in (ra_g σ (D + 5 + i) 2) := (ra_in_g _ _ _)
  refine ra_ifle rfl rfl hr1 (fun h2 => ?_) (fun h2 => ?_)
  · refine ra_iconst rfl ?_
    exact ra_ireturn rfl (ra_okB (Or.inl rfl)) ⟨(by unfold ra_B; rw [if_neg (by omega)]), rfl⟩
  · refine ra_iconst rfl ?_
    refine ra_goto rfl rfl ?_
    exact ra_ireturn rfl (ra_okB (Or.inr rfl)) ⟨(by unfold ra_B; rw [if_pos (by omega)]), rfl⟩
theorem s4_95 {n : Nat} {f : Nat → Int32} {d : Nat} {D i : Nat} {x0 : Int} {x1 : Int} {σ : ra_V} (hD : isD D) (hi : i < 8) (hx0 : ra_in x0) (hx1 : ra_in x1) (hb : 0 < ra_g σ (D + 5 + i) 2 → 0 ≤ ra_g σ (D + 5 + i) 1 ∧ ra_g σ (D + 5 + i) 1 + ra_g σ (D + 5 + i) 2 ≤ 600) : ra_C (g_Gs n f) g_sh 0 (d + 1) 95 [.index (D + 5 + i), ra_J x0, ra_J x1] σ (fun r9 s => r9 = .inl (some (ra_B (0 < ra_g σ (D + 5 + i) 2 ∧ ra_g σ (D + 5 + i) 1 < x0 + x1 ∧ x0 < ra_g σ (D + 5 + i) 1 + ra_g σ (D + 5 + i) 2))) ∧ s = σ) := by
  refine ra_enter (nn := 0) mt_95 rfl (Nat.le_of_ble_eq_true rfl) rfl (fun h => absurd h (by decide +kernel)) ?_
  refine ra_load rfl rfl rfl rfl ?_
  refine ra_getI rfl lk_5_18 (Nat.zero_le _) (sh_P hD hi) rfl ?_
  have hr1 : ra_in (ra_g σ (D + 5 + i) 2) := (ra_in_g _ _ _)
  refine ra_ifle rfl rfl hr1 (fun h2 => ?_) (fun h2 => ?_)
  · refine ra_iconst rfl ?_
    exact ra_ireturn rfl (ra_okB (Or.inl rfl)) ⟨(by unfold ra_B; rw [if_neg (by omega)]), rfl⟩
  · refine ra_load rfl rfl rfl rfl ?_
    refine ra_getI rfl lk_5_15 (Nat.zero_le _) (sh_P hD hi) rfl ?_
    have hr3 : ra_in (ra_g σ (D + 5 + i) 1) := (ra_in_g _ _ _)
    refine ra_i2l rfl hr3 ?_
    refine ra_load rfl rfl rfl rfl ?_
    refine ra_load rfl rfl rfl rfl ?_
    refine ra_ladd rfl ?_
    refine ra_lcmp rfl (by unfold ra_in6; first | omega | (unfold ra_in at *; omega)) (by unfold ra_in6; first | omega | (unfold ra_in at *; omega)) ?_
    refine ra_ifge rfl rfl (ra_in_cmp _ _) (fun h4 => ?_) (fun h4 => ?_)
    · rw [ra_cmp_ge] at h4
      refine ra_iconst rfl ?_
      exact ra_ireturn rfl (ra_okB (Or.inl rfl)) ⟨(by unfold ra_B; rw [if_neg (by omega)]), rfl⟩
    · rw [ra_cmp_lt] at h4
      refine ra_load rfl rfl rfl rfl ?_
      refine ra_load rfl rfl rfl rfl ?_
      refine ra_getI rfl lk_5_15 (Nat.zero_le _) (sh_P hD hi) rfl ?_
      have hr5 : ra_in (ra_g σ (D + 5 + i) 1) := (ra_in_g _ _ _)
      refine ra_load rfl rfl rfl rfl ?_
      refine ra_getI rfl lk_5_18 (Nat.zero_le _) (sh_P hD hi) rfl ?_
      have hr6 : ra_in (ra_g σ (D + 5 + i) 2) := (ra_in_g _ _ _)
      refine ra_iadd rfl ?_
      refine ra_i2l rfl (by first | omega | (unfold ra_in at *; omega)) ?_
      refine ra_lcmp rfl (by unfold ra_in6; first | omega | (unfold ra_in at *; omega)) (by unfold ra_in6; first | omega | (unfold ra_in at *; omega)) ?_
      refine ra_ifge rfl rfl (ra_in_cmp _ _) (fun h7 => ?_) (fun h7 => ?_)
      · rw [ra_cmp_ge] at h7
        refine ra_iconst rfl ?_
        exact ra_ireturn rfl (ra_okB (Or.inl rfl)) ⟨(by unfold ra_B; rw [if_neg (by omega)]), rfl⟩
      · rw [ra_cmp_lt] at h7
        refine ra_iconst rfl ?_
        refine ra_goto rfl rfl ?_
        exact ra_ireturn rfl (ra_okB (Or.inr rfl)) ⟨(by unfold ra_B; rw [if_pos (by omega)]), rfl⟩
theorem l4_4_13 {n : Nat} {f : Nat → Int32} {d : Nat} {D : Nat} {σ : ra_V} (hD : isD D) (hst : x4SZ σ D pk) : ∀ (nn : Nat) (v1 : Int) (v4 : Int) (hv1_0 : v1 = min v4 pk) (hv4_0 : 0 ≤ v4) (hv4_1 : v4 ≤ 8) (hm : ((8 - v4 : Int)).toNat < nn), ra_P (g_Gs n f) g_sh 0 (d + 1) g_m_X0_standing 13 [none, some (ra_I v1), some (.index (D + 2)), some (ra_I ((8 : Nat) : Int)), some (ra_I v4), none] [] σ (fun r9 s => r9 = .inl (some (ra_I (pk))) ∧ s = σ) := by
  intro nn
  induction nn with
  | zero => intro v1 v4 hv1_0 hv4_0 hv4_1 hm; exact absurd hm (Nat.not_lt_zero _)
  | succ nn ih =>
    intro v1 v4 hv1_0 hv4_0 hv4_1 hm
    have hst0 := hst
    obtain ⟨hs1, hs2⟩ := hst0
    have hsp := hs2 v4.toNat
    refine ra_load rfl rfl rfl rfl ?_
    refine ra_load rfl rfl rfl rfl ?_
    refine ra_icge rfl rfl (by first | omega | (unfold ra_in at *; omega)) (by first | omega | (unfold ra_in at *; omega)) (fun h1 => ?_) (fun h1 => ?_)
    · refine ra_load rfl rfl rfl rfl ?_
      exact ra_ireturn rfl rfl ⟨(congrArg (fun z => Sum.inl (some (ra_I z))) (by omega)), rfl⟩
    · refine ra_load rfl rfl rfl rfl ?_
      refine ra_load rfl rfl rfl rfl ?_
      refine ra_aaload rfl (sh_D2 hD) rfl (by decide) (by first | omega | (unfold ra_in at *; omega)) (by first | omega | (unfold ra_in at *; omega)) (sh_pt (by first | omega | (unfold ra_in at *; omega)) (by first | omega | (unfold ra_in at *; omega))) rfl ?_
      have hi2 : v4.toNat < 8 := (by first | omega | (unfold ra_in at *; omega))
      refine ra_store (L' := [_, _, _, _, _, _]) rfl rfl rfl (Nat.le_of_ble_eq_true rfl) rfl ?_
      refine ra_load rfl rfl rfl rfl ?_
      refine ra_cTp (s4_92 hD hi2) rfl (ct_92 rfl lk_0_81 (Or.inl rfl) (sh_P hD hi2) (Nat.le_of_ble_eq_true rfl)) ?_
      refine ra_ifeqB rfl rfl (fun h4 => ?_) (fun h4 => ?_)
      · refine ra_iinc (L' := [_, _, _, _, _, _]) rfl rfl (Nat.le_of_ble_eq_true rfl) rfl ?_
        refine ra_goto rfl rfl ?_
        exact ra_weak (by repeat' constructor) (ih v1 (v4 + 1) (by first | omega | (unfold ra_in at *; omega)) (by first | omega | (unfold ra_in at *; omega)) (by first | omega | (unfold ra_in at *; omega)) (by first | omega | (unfold ra_in at *; omega)))
      · refine ra_iinc (L' := [_, _, _, _, _, _]) rfl rfl (Nat.le_of_ble_eq_true rfl) rfl ?_
        refine ra_iinc (L' := [_, _, _, _, _, _]) rfl rfl (Nat.le_of_ble_eq_true rfl) rfl ?_
        refine ra_goto rfl rfl ?_
        exact ra_weak (by repeat' constructor) (ih (v1 + 1) (v4 + 1) (by first | omega | (unfold ra_in at *; omega)) (by first | omega | (unfold ra_in at *; omega)) (by first | omega | (unfold ra_in at *; omega)) (by first | omega | (unfold ra_in at *; omega)))
theorem s4_4 {n : Nat} {f : Nat → Int32} {d : Nat} {D : Nat} {σ : ra_V} (hD : isD D) (hst : x4SZ σ D pk) : ra_C (g_Gs n f) g_sh 0 (d + 2) 4 [.index (D)] σ (fun r9 s => r9 = .inl (some (ra_I (pk))) ∧ s = σ) := by
  refine ra_enter (nn := 5) mt_4 rfl (Nat.le_of_ble_eq_true rfl) rfl (fun h => absurd h (by decide +kernel)) ?_
  have hst0 := hst
  obtain ⟨hs1, hs2⟩ := hst0
  refine ra_iconst rfl ?_
  refine ra_store (L' := [_, _, _, _, _, _]) rfl rfl rfl (Nat.le_of_ble_eq_true rfl) rfl ?_
  refine ra_load rfl rfl rfl rfl ?_
  refine ra_getR rfl lk_0_17 (Nat.zero_le _) (sh_D hD) rfl ?_
  refine ra_store (L' := [_, _, _, _, _, _]) rfl rfl rfl (Nat.le_of_ble_eq_true rfl) rfl ?_
  refine ra_load rfl rfl rfl rfl ?_
  refine ra_alen rfl (sh_D2 hD) rfl ?_
  refine ra_store (L' := [_, _, _, _, _, _]) rfl rfl rfl (Nat.le_of_ble_eq_true rfl) rfl ?_
  refine ra_iconst rfl ?_
  refine ra_store (L' := [_, _, _, _, _, _]) rfl rfl rfl (Nat.le_of_ble_eq_true rfl) rfl ?_
  exact ra_weak (by repeat' constructor) (l4_4_13 hD hst _ (0) (0) (by first | omega | (unfold ra_in at *; omega)) (by first | omega | (unfold ra_in at *; omega)) (by first | omega | (unfold ra_in at *; omega)) (Nat.lt_succ_self _))
theorem s4_3 {n : Nat} {f : Nat → Int32} {d : Nat} {D : Nat} {x0 : Int} {σ : ra_V} (hD : isD D) (hx0 : ra_in x0) (hst : x4SZ σ D pk) (hj : 0 ≤ x0 ∧ x0 < pk) : ra_C (g_Gs n f) g_sh 0 (d + 2) 3 [.index (D), ra_I x0] σ (fun r9 s => r9 = .inl (some (.index (D + 5 + (x0.toNat)))) ∧ s = σ) := by
  refine ra_enter (nn := 0) mt_3 rfl (Nat.le_of_ble_eq_true rfl) rfl (fun h => absurd h (by decide +kernel)) ?_
  have hst0 := hst
  obtain ⟨hs1, hs2⟩ := hst0
  have hsp := hs2 x0.toNat (by omega)
  refine ra_load rfl rfl rfl rfl ?_
  refine ra_iflt rfl rfl hx0 (fun h1 => ?_) (fun h1 => ?_)
  · refine ra_null rfl ?_
    exact ra_areturn rfl rfl ⟨(by exfalso; omega), rfl⟩
  · refine ra_load rfl rfl rfl rfl ?_
    refine ra_load rfl rfl rfl rfl ?_
    refine ra_getR rfl lk_0_17 (Nat.zero_le _) (sh_D hD) rfl ?_
    refine ra_alen rfl (sh_D2 hD) rfl ?_
    refine ra_icge rfl rfl hx0 (by first | omega | (unfold ra_in at *; omega)) (fun h2 => ?_) (fun h2 => ?_)
    · refine ra_null rfl ?_
      exact ra_areturn rfl rfl ⟨(by exfalso; omega), rfl⟩
    · refine ra_load rfl rfl rfl rfl ?_
      refine ra_getR rfl lk_0_17 (Nat.zero_le _) (sh_D hD) rfl ?_
      refine ra_load rfl rfl rfl rfl ?_
      refine ra_aaload rfl (sh_D2 hD) rfl (by decide) (by first | omega | (unfold ra_in at *; omega)) (by first | omega | (unfold ra_in at *; omega)) (sh_pt (by first | omega | (unfold ra_in at *; omega)) (by first | omega | (unfold ra_in at *; omega))) rfl ?_
      have hi3 : x0.toNat < 8 := (by first | omega | (unfold ra_in at *; omega))
      refine ra_cTp (s4_92 hD hi3) rfl (ct_92 rfl lk_0_81 (Or.inl rfl) (sh_P hD hi3) (Nat.le_of_ble_eq_true rfl)) ?_
      refine ra_ifneB rfl rfl (fun h5 => ?_) (fun h5 => ?_)
      · refine ra_load rfl rfl rfl rfl ?_
        refine ra_getR rfl lk_0_17 (Nat.zero_le _) (sh_D hD) rfl ?_
        refine ra_load rfl rfl rfl rfl ?_
        refine ra_aaload rfl (sh_D2 hD) rfl (by decide) (by first | omega | (unfold ra_in at *; omega)) (by first | omega | (unfold ra_in at *; omega)) (sh_pt (by first | omega | (unfold ra_in at *; omega)) (by first | omega | (unfold ra_in at *; omega))) rfl ?_
        have hi6 : x0.toNat < 8 := (by first | omega | (unfold ra_in at *; omega))
        exact ra_areturn rfl rfl ⟨rfl, rfl⟩
      · refine ra_null rfl ?_
        exact ra_areturn rfl rfl ⟨(by exfalso; omega), rfl⟩
theorem s4_9 {n : Nat} {f : Nat → Int32} {d : Nat} {D : Nat} {σ : ra_V} (hD : isD D) (hu : ra_g σ (D) 4 - ra_g σ (D) 6 = uv ∧ ra_in uv) : ra_C (g_Gs n f) g_sh 0 (d + 1) 9 [.index (D)] σ (fun r9 s => r9 = .inl (some (ra_I (uv))) ∧ s = σ) := by
  refine ra_enter (nn := 0) mt_9 rfl (Nat.le_of_ble_eq_true rfl) rfl (fun h => absurd h (by decide +kernel)) ?_
  refine ra_load rfl rfl rfl rfl ?_
  refine ra_getI rfl lk_0_34 (Nat.zero_le _) (sh_D hD) rfl ?_
  have hr1 : ra_in (ra_g σ (D) 4) := (ra_in_g _ _ _)
  refine ra_load rfl rfl rfl rfl ?_
  refine ra_getI rfl lk_0_41 (Nat.zero_le _) (sh_D hD) rfl ?_
  have hr2 : ra_in (ra_g σ (D) 6) := (ra_in_g _ _ _)
  refine ra_isub rfl ?_
  exact ra_ireturn rfl rfl ⟨(congrArg (fun z => Sum.inl (some (ra_I z))) (by omega)), rfl⟩
theorem s4_11 {n : Nat} {f : Nat → Int32} {d : Nat} {D : Nat} {x0 : Int} {σ : ra_V} (hD : isD D) (hx0 : ra_in x0) (ha : ra_g σ (D) 7 = al ∧ 1 ≤ al ∧ 0 ≤ x0) : ra_C (g_Gs n f) g_sh 0 (d + 1) 11 [.index (D), ra_I x0] σ (fun r9 s => (∃ z : Int, (z = 0 ∨ z = 1) ∧ (z = 1 ↔ x0 % al = 0) ∧ r9 = .inl (some (ra_I z))) ∧ s = σ) := by
  refine ra_enter (nn := 0) mt_11 rfl (Nat.le_of_ble_eq_true rfl) rfl (fun h => absurd h (by decide +kernel)) ?_
  obtain ⟨ha0, ha1, ha2⟩ := ha
  refine ra_load rfl rfl rfl rfl ?_
  refine ra_getI rfl lk_0_44 (Nat.zero_le _) (sh_D hD) rfl ?_
  have hr1 : ra_in (ra_g σ (D) 7) := (ra_in_g _ _ _)
  refine ra_ifle rfl rfl hr1 (fun h2 => ?_) (fun h2 => ?_)
  · refine ra_iconst rfl ?_
    exact ra_ireturn rfl (ra_okB (Or.inl rfl)) ⟨⟨_, (Or.inl rfl), (by rw [← ha0]; have e := Int.tmod_eq_emod_of_nonneg (b := ra_g σ (D) 7) ha2; omega), rfl⟩, rfl⟩
  · refine ra_load rfl rfl rfl rfl ?_
    refine ra_load rfl rfl rfl rfl ?_
    refine ra_getI rfl lk_0_44 (Nat.zero_le _) (sh_D hD) rfl ?_
    have hr3 : ra_in (ra_g σ (D) 7) := (ra_in_g _ _ _)
    refine ra_irem rfl hx0 hr3 (by omega) ?_
    refine ra_ifne rfl rfl (ra_in_tmod hx0 (by omega)) (fun h4 => ?_) (fun h4 => ?_)
    · refine ra_iconst rfl ?_
      exact ra_ireturn rfl (ra_okB (Or.inl rfl)) ⟨⟨_, (Or.inl rfl), (by rw [← ha0]; have e := Int.tmod_eq_emod_of_nonneg (b := ra_g σ (D) 7) ha2; omega), rfl⟩, rfl⟩
    · refine ra_iconst rfl ?_
      refine ra_goto rfl rfl ?_
      exact ra_ireturn rfl (ra_okB (Or.inr rfl)) ⟨⟨_, (Or.inr rfl), (by rw [← ha0]; have e := Int.tmod_eq_emod_of_nonneg (b := ra_g σ (D) 7) ha2; omega), rfl⟩, rfl⟩
theorem l4_12_17 {n : Nat} {f : Nat → Int32} {d : Nat} {D : Nat} {x0 : Int} {x1 : Int} {σ : ra_V} (hD : isD D) (hx0 : ra_in x0) (hx1 : ra_in x1) (hb : x4BD σ D) : ∀ (nn : Nat) (v5 : Int) (v8 : Int) (hv5_0 : ra_in v5) (hv5_1 : v5 ≠ 0 ↔ ∃ p : Int, 0 ≤ p ∧ p < v8 ∧ x4MT σ D x0 x1 p.toNat) (hv8_0 : 0 ≤ v8) (hv8_1 : v8 ≤ 8) (hm : ((8 - v8 : Int)).toNat < nn), ra_P (g_Gs n f) g_sh 0 (d + 1) g_m_X0_meeting 17 [none, some (ra_J x0), none, some (ra_J x1), none, some (ra_I v5), some (.index (D + 2)), some (ra_I ((8 : Nat) : Int)), some (ra_I v8), none] [] σ (fun r9 s => (∃ z, ra_in z ∧ (z ≠ 0 ↔ ∃ p : Int, 0 ≤ p ∧ p < 8 ∧ x4MT σ D x0 x1 p.toNat) ∧ r9 = .inl (some (ra_I z))) ∧ s = σ) := by
  intro nn
  induction nn with
  | zero => intro v5 v8 hv5_0 hv5_1 hv8_0 hv8_1 hm; exact absurd hm (Nat.not_lt_zero _)
  | succ nn ih =>
    intro v5 v8 hv5_0 hv5_1 hv8_0 hv8_1 hm
    refine ra_load rfl rfl rfl rfl ?_
    refine ra_load rfl rfl rfl rfl ?_
    refine ra_icge rfl rfl (by first | omega | (unfold ra_in at *; omega)) (by first | omega | (unfold ra_in at *; omega)) (fun h1 => ?_) (fun h1 => ?_)
    · refine ra_load rfl rfl rfl rfl ?_
      exact ra_ireturn rfl rfl ⟨⟨_, (by first | omega | (unfold ra_in at *; omega)), (by obtain rfl : v8 = 8 := (by omega); exact hv5_1), rfl⟩, rfl⟩
    · refine ra_load rfl rfl rfl rfl ?_
      refine ra_load rfl rfl rfl rfl ?_
      refine ra_aaload rfl (sh_D2 hD) rfl (by decide) (by first | omega | (unfold ra_in at *; omega)) (by first | omega | (unfold ra_in at *; omega)) (sh_pt (by first | omega | (unfold ra_in at *; omega)) (by first | omega | (unfold ra_in at *; omega))) rfl ?_
      have hi2 : v8.toNat < 8 := (by first | omega | (unfold ra_in at *; omega))
      refine ra_store (L' := [_, _, _, _, _, _, _, _, _, _]) rfl rfl rfl (Nat.le_of_ble_eq_true rfl) rfl ?_
      refine ra_load rfl rfl rfl rfl ?_
      refine ra_load rfl rfl rfl rfl ?_
      refine ra_load rfl rfl rfl rfl ?_
      refine ra_cTp (s4_95 hD hi2 hx0 hx1 (hb v8.toNat (by omega))) rfl (ct_95 rfl lk_0_106 (Or.inl rfl) (sh_P hD hi2) (Nat.le_of_ble_eq_true rfl)) ?_
      refine ra_ifeqB rfl rfl (fun h4 => ?_) (fun h4 => ?_)
      · refine ra_iinc (L' := [_, _, _, _, _, _, _, _, _, _]) rfl rfl (Nat.le_of_ble_eq_true rfl) rfl ?_
        refine ra_goto rfl rfl ?_
        exact ra_weak (by repeat' constructor) (ih v5 (v8 + 1) (by first | omega | (unfold ra_in at *; omega)) (⟨fun q => ex_s1 (hv5_1.mp q), fun q => Classical.byContradiction (fun c => ex_s0 (fun z => c (hv5_1.mpr z)) (by first | assumption | (show ¬ x4MT σ D x0 x1 v8.toNat; assumption)) q)⟩) (by first | omega | (unfold ra_in at *; omega)) (by first | omega | (unfold ra_in at *; omega)) (by first | omega | (unfold ra_in at *; omega)))
      · refine ra_load rfl rfl rfl rfl ?_
        refine ra_iconst rfl ?_
        refine ra_load rfl rfl rfl rfl ?_
        refine ra_getK rfl lk_0_91 (Nat.zero_le _) (sh_P hD hi2) rfl ?_
        refine ra_ishl rfl ?_
        refine ra_ior rfl ?_
        refine ra_store (L' := [_, _, _, _, _, _, _, _, _, _]) rfl rfl rfl (Nat.le_of_ble_eq_true rfl) rfl ?_
        refine ra_iinc (L' := [_, _, _, _, _, _, _, _, _, _]) rfl rfl (Nat.le_of_ble_eq_true rfl) rfl ?_
        refine ra_goto rfl rfl ?_
        exact ra_weak (by repeat' constructor) (ih (ra_op .ior v5 (ra_op .ishl (1) ((v8.toNat : Nat) : Int))) (v8 + 1) (ra_in_op _ _ _) (iff_of_true (x4or_ne (by omega)) (ex_s2 hv8_0 (by first | assumption | (show x4MT σ D x0 x1 v8.toNat; assumption)))) (by first | omega | (unfold ra_in at *; omega)) (by first | omega | (unfold ra_in at *; omega)) (by first | omega | (unfold ra_in at *; omega)))
theorem s4_12 {n : Nat} {f : Nat → Int32} {d : Nat} {D : Nat} {x0 : Int} {x1 : Int} {σ : ra_V} (hD : isD D) (hx0 : ra_in x0) (hx1 : ra_in x1) (hb : x4BD σ D) : ra_C (g_Gs n f) g_sh 0 (d + 2) 12 [.index (D), ra_J x0, ra_J x1] σ (fun r9 s => (∃ z, ra_in z ∧ (z ≠ 0 ↔ ∃ p : Int, 0 ≤ p ∧ p < 8 ∧ x4MT σ D x0 x1 p.toNat) ∧ r9 = .inl (some (ra_I z))) ∧ s = σ) := by
  refine ra_enter (nn := 5) mt_12 rfl (Nat.le_of_ble_eq_true rfl) rfl (fun h => absurd h (by decide +kernel)) ?_
  refine ra_iconst rfl ?_
  refine ra_store (L' := [_, _, _, _, _, _, _, _, _, _]) rfl rfl rfl (Nat.le_of_ble_eq_true rfl) rfl ?_
  refine ra_load rfl rfl rfl rfl ?_
  refine ra_getR rfl lk_0_17 (Nat.zero_le _) (sh_D hD) rfl ?_
  refine ra_store (L' := [_, _, _, _, _, _, _, _, _, _]) rfl rfl rfl (Nat.le_of_ble_eq_true rfl) rfl ?_
  refine ra_load rfl rfl rfl rfl ?_
  refine ra_alen rfl (sh_D2 hD) rfl ?_
  refine ra_store (L' := [_, _, _, _, _, _, _, _, _, _]) rfl rfl rfl (Nat.le_of_ble_eq_true rfl) rfl ?_
  refine ra_iconst rfl ?_
  refine ra_store (L' := [_, _, _, _, _, _, _, _, _, _]) rfl rfl rfl (Nat.le_of_ble_eq_true rfl) rfl ?_
  exact ra_weak (by repeat' constructor) (l4_12_17 hD hx0 hx1 hb _ (0) (0) (by first | omega | (unfold ra_in at *; omega)) (iff_of_false (fun q => q rfl) (by rintro ⟨p, h1, h2, -⟩; omega)) (by first | omega | (unfold ra_in at *; omega)) (by first | omega | (unfold ra_in at *; omega)) (Nat.lt_succ_self _))
theorem l4_33_14 {n : Nat} {f : Nat → Int32} {d : Nat} {D : Nat} {x0 : Int} {x1 : Int} {x2 : Int} {x3 : Int} {σ : ra_V} (hD : isD D) (hx0 : ra_in x0) (hx1 : ra_in x1) (hx2 : ra_in x2) (hx3 : ra_in x3) (hst : x4SZ σ D pk) (h8 : pk < 8) : ∀ (nn : Nat) (v7 : Int) (hv7_0 : 0 ≤ v7) (hv7_1 : v7 ≤ 8) (hv7_2 : v7 ≤ pk) (hm : ((8 - v7 : Int)).toNat < nn), ra_P (g_Gs n f) g_sh 0 (d + 2) g_m_X0_make 14 [some (.index (D)), some (ra_I x0), some (ra_I x1), some (ra_I x2), some (ra_I x3), some (.index (D + 2)), some (ra_I ((8 : Nat) : Int)), some (ra_I v7), none] [] σ (fun r9 s => rI r9 ∧ Fr (D) (D + 13) σ s ∧ x4MKC σ s D pk.toNat x0 x1) := by
  intro nn
  induction nn with
  | zero => intro v7 hv7_0 hv7_1 hv7_2 hm; exact absurd hm (Nat.not_lt_zero _)
  | succ nn ih =>
    intro v7 hv7_0 hv7_1 hv7_2 hm
    have hst0 := hst
    obtain ⟨hs1, hs2⟩ := hst0
    have hsp := hs2 v7.toNat
    refine ra_load rfl rfl rfl rfl ?_
    refine ra_load rfl rfl rfl rfl ?_
    refine ra_icge rfl rfl (by first | omega | (unfold ra_in at *; omega)) (by first | omega | (unfold ra_in at *; omega)) (fun h1 => ?_) (fun h1 => ?_)
    · refine ra_iconst rfl ?_
      exact ra_ireturn rfl rfl ⟨⟨_, (by first | omega | (unfold ra_in at *; omega)), rfl⟩, (by exfalso; omega)⟩
    · refine ra_load rfl rfl rfl rfl ?_
      refine ra_load rfl rfl rfl rfl ?_
      refine ra_aaload rfl (sh_D2 hD) rfl (by decide) (by first | omega | (unfold ra_in at *; omega)) (by first | omega | (unfold ra_in at *; omega)) (sh_pt (by first | omega | (unfold ra_in at *; omega)) (by first | omega | (unfold ra_in at *; omega))) rfl ?_
      have hi2 : v7.toNat < 8 := (by first | omega | (unfold ra_in at *; omega))
      refine ra_store (L' := [_, _, _, _, _, _, _, _, _]) rfl rfl rfl (Nat.le_of_ble_eq_true rfl) rfl ?_
      refine ra_load rfl rfl rfl rfl ?_
      refine ra_cTp (s4_92 hD hi2) rfl (ct_92 rfl lk_0_81 (Or.inl rfl) (sh_P hD hi2) (Nat.le_of_ble_eq_true rfl)) ?_
      refine ra_ifneB rfl rfl (fun h4 => ?_) (fun h4 => ?_)
      · refine ra_iinc (L' := [_, _, _, _, _, _, _, _, _]) rfl rfl (Nat.le_of_ble_eq_true rfl) rfl ?_
        refine ra_goto rfl rfl ?_
        exact ra_weak (by repeat' constructor) (ih (v7 + 1) (by first | omega | (unfold ra_in at *; omega)) (by first | omega | (unfold ra_in at *; omega)) (by first | omega | (unfold ra_in at *; omega)) (by first | omega | (unfold ra_in at *; omega)))
      · refine ra_load rfl rfl rfl rfl ?_
        refine ra_load rfl rfl rfl rfl ?_
        refine ra_putI rfl lk_0_85 (Nat.zero_le _) (sh_P hD hi2) rfl rfl ?_
        refine ra_newU hx0 (fun s5 hs5 hp6 hp6o => ?_)
        have hp6_2 := hp6o 2 (by decide)
        have hp6_5 := hp6o 5 (by decide)
        have hF7 := Fr_tr (lo := D) (hi := D + 13) Fr_rf hs5 (by omega)
        refine ra_load rfl rfl rfl rfl ?_
        refine ra_load rfl rfl rfl rfl ?_
        refine ra_putI rfl lk_0_65 (Nat.zero_le _) (sh_P hD hi2) rfl rfl ?_
        refine ra_newU hx1 (fun s8 hs8 hp9 hp9o => ?_)
        have hp9_1 := hp9o 1 (by decide)
        have hp9_5 := hp9o 5 (by decide)
        have hF10 := Fr_tr (lo := D) (hi := D + 13) hF7 hs8 (by omega)
        refine ra_load rfl rfl rfl rfl ?_
        refine ra_load rfl rfl rfl rfl ?_
        refine ra_putI rfl lk_0_148 (Nat.zero_le _) (sh_P hD hi2) rfl rfl ?_
        refine ra_newU hx3 (fun s11 hs11 hp12 hp12o => ?_)
        have hp12_1 := hp12o 1 (by decide)
        have hp12_2 := hp12o 2 (by decide)
        have hp12_5 := hp12o 5 (by decide)
        have hF13 := Fr_tr (lo := D) (hi := D + 13) hF10 hs11 (by omega)
        refine ra_load rfl rfl rfl rfl ?_
        refine ra_load rfl rfl rfl rfl ?_
        refine ra_putI rfl lk_0_220 (Nat.zero_le _) (sh_P hD hi2) rfl rfl ?_
        refine ra_newU hx2 (fun s14 hs14 hp15 hp15o => ?_)
        have hp15_1 := hp15o 1 (by decide)
        have hp15_2 := hp15o 2 (by decide)
        have hp15_5 := hp15o 5 (by decide)
        have hF16 := Fr_tr (lo := D) (hi := D + 13) hF13 hs14 (by omega)
        refine ra_load rfl rfl rfl rfl ?_
        refine ra_iconst rfl ?_
        refine ra_putB rfl lk_0_94 (Nat.zero_le _) (sh_P hD hi2) rfl rfl (Or.inl rfl) ?_
        refine ra_newU (ra_in01 (Or.inl rfl)) (fun s17 hs17 hp18 hp18o => ?_)
        have hp18_1 := hp18o 1 (by decide)
        have hp18_2 := hp18o 2 (by decide)
        have hF19 := Fr_tr (lo := D) (hi := D + 13) hF16 hs17 (by omega)
        refine ra_load rfl rfl rfl rfl ?_
        refine ra_load rfl rfl rfl rfl ?_
        refine ra_getI rfl lk_0_50 (Nat.zero_le _) (sh_D hD) rfl ?_
        have hr20 : ra_in (ra_g s17 (D) 9) := (ra_in_g _ _ _)
        refine ra_putI rfl lk_0_223 (Nat.zero_le _) (sh_P hD hi2) rfl rfl ?_
        refine ra_newU hr20 (fun s21 hs21 hp22 hp22o => ?_)
        have hp22_1 := hp22o 1 (by decide)
        have hp22_2 := hp22o 2 (by decide)
        have hp22_5 := hp22o 5 (by decide)
        have hF23 := Fr_tr (lo := D) (hi := D + 13) hF19 hs21 (by omega)
        refine ra_load rfl rfl rfl rfl ?_
        refine ra_iconst rfl ?_
        refine ra_putI rfl lk_0_226 (Nat.zero_le _) (sh_P hD hi2) rfl rfl ?_
        refine ra_newU (by first | omega | (unfold ra_in at *; omega)) (fun s24 hs24 hp25 hp25o => ?_)
        have hp25_1 := hp25o 1 (by decide)
        have hp25_2 := hp25o 2 (by decide)
        have hp25_5 := hp25o 5 (by decide)
        have hF26 := Fr_tr (lo := D) (hi := D + 13) hF23 hs24 (by omega)
        refine ra_load rfl rfl rfl rfl ?_
        refine ra_dup rfl rfl ?_
        refine ra_getI rfl lk_0_50 (Nat.zero_le _) (sh_D hD) rfl ?_
        have hr27 : ra_in (ra_g s24 (D) 9) := (ra_in_g _ _ _)
        refine ra_iconst rfl ?_
        refine ra_iadd rfl ?_
        refine ra_gen (fun z28 hz28 => ?_)
        refine ra_putI rfl lk_0_50 (Nat.zero_le _) (sh_D hD) rfl rfl ?_
        refine ra_newU hz28 (fun s29 hs29 hp30 hp30o => ?_)
        have hp30_4 := hp30o 4 (by decide)
        have hp30_5 := hp30o 5 (by decide)
        have hp30_6 := hp30o 6 (by decide)
        have hp30_7 := hp30o 7 (by decide)
        have hp30_8 := hp30o 8 (by decide)
        have hF31 := Fr_tr (lo := D) (hi := D + 13) hF26 hs29 (by omega)
        have hk32 : s29 (D + 5 + v7.toNat) = s24 (D + 5 + v7.toNat) := (hs29 (D + 5 + v7.toNat) (by omega))
        refine ra_load rfl rfl rfl rfl ?_
        refine ra_load rfl rfl rfl rfl ?_
        refine ra_iconst rfl ?_
        refine ra_cV (sp_25 hD hi2 (by first | omega | (unfold ra_in at *; omega))) rfl (ct_25 rfl lk_0_229 (Or.inl rfl) (sh_D hD) (Nat.le_of_ble_eq_true rfl)) (fun s33 hs33 => ?_)
        have hF34 := Fr_tr (lo := D) (hi := D + 13) hF31 hs33 (by omega)
        have hk35 : s33 (D + 5 + v7.toNat) = s24 (D + 5 + v7.toNat) := (hs33 (D + 5 + v7.toNat) (by omega)).trans hk32
        have hk36 : s33 (D) = s29 (D) := (hs33 (D) (by omega))
        refine ra_load rfl rfl rfl rfl ?_
        refine ra_getK rfl lk_0_91 (Nat.zero_le _) (sh_P hD hi2) rfl ?_
        exact ra_ireturn rfl rfl ⟨⟨_, (by first | omega | (unfold ra_in at *; omega)), rfl⟩, ⟨hF34, (by rw [show pk.toNat = v7.toNat by omega]; exact ⟨fun j j1 j2 => ((ra_gk (hs33 (D) (by omega))).trans ((hp30o j (by omega)).trans ((ra_gk (hs24 (D) (by omega))).trans ((ra_gk (hs21 (D) (by omega))).trans ((ra_gk (hs17 (D) (by omega))).trans ((ra_gk (hs14 (D) (by omega))).trans ((ra_gk (hs11 (D) (by omega))).trans ((ra_gk (hs8 (D) (by omega))).trans (ra_gk (hs5 (D) (by omega))))))))))), fun p p0 p1 => ((hs33 (D + 5 + p) (by omega)).trans ((hs29 (D + 5 + p) (by omega)).trans ((hs24 (D + 5 + p) (by omega)).trans ((hs21 (D + 5 + p) (by omega)).trans ((hs17 (D + 5 + p) (by omega)).trans ((hs14 (D + 5 + p) (by omega)).trans ((hs11 (D + 5 + p) (by omega)).trans ((hs8 (D + 5 + p) (by omega)).trans (hs5 (D + 5 + p) (by omega)))))))))), (ra_gk hk35).trans (by omega), (ra_gk hk35).trans (by omega), (ra_gk hk35).trans (by omega)⟩)⟩⟩
theorem s4_33 {n : Nat} {f : Nat → Int32} {d : Nat} {D : Nat} {x0 : Int} {x1 : Int} {x2 : Int} {x3 : Int} {σ : ra_V} (hD : isD D) (hx0 : ra_in x0) (hx1 : ra_in x1) (hx2 : ra_in x2) (hx3 : ra_in x3) (hst : x4SZ σ D pk) (h8 : pk < 8) : ra_C (g_Gs n f) g_sh 0 (d + 3) 33 [.index (D), ra_I x0, ra_I x1, ra_I x2, ra_I x3] σ (fun r9 s => rI r9 ∧ Fr (D) (D + 13) σ s ∧ x4MKC σ s D pk.toNat x0 x1) := by
  refine ra_enter (nn := 4) mt_33 rfl (Nat.le_of_ble_eq_true rfl) rfl (fun h => absurd h (by decide +kernel)) ?_
  have hst0 := hst
  obtain ⟨hs1, hs2⟩ := hst0
  refine ra_load rfl rfl rfl rfl ?_
  refine ra_getR rfl lk_0_17 (Nat.zero_le _) (sh_D hD) rfl ?_
  refine ra_store (L' := [_, _, _, _, _, _, _, _, _]) rfl rfl rfl (Nat.le_of_ble_eq_true rfl) rfl ?_
  refine ra_load rfl rfl rfl rfl ?_
  refine ra_alen rfl (sh_D2 hD) rfl ?_
  refine ra_store (L' := [_, _, _, _, _, _, _, _, _]) rfl rfl rfl (Nat.le_of_ble_eq_true rfl) rfl ?_
  refine ra_iconst rfl ?_
  refine ra_store (L' := [_, _, _, _, _, _, _, _, _]) rfl rfl rfl (Nat.le_of_ble_eq_true rfl) rfl ?_
  exact ra_weak (by repeat' constructor) (l4_33_14 hD hx0 hx1 hx2 hx3 hst h8 _ (0) (by first | omega | (unfold ra_in at *; omega)) (by first | omega | (unfold ra_in at *; omega)) (by first | omega | (unfold ra_in at *; omega)) (Nat.lt_succ_self _))
theorem l4_1_89 {n : Nat} {f : Nat → Int32} {d : Nat} {D : Nat} {x0 : Int} {σ : ra_V} (hD : isD D) (hx0 : ra_in x0) : ∀ (nn : Nat) (v2 : Int) (s : ra_V) (hv2_0 : 0 ≤ v2) (hv2_1 : v2 ≤ 600) (hF : Fr (D) (D + 13) σ s) (hv : ra_g s (D) 4 = x0 ∧ ra_g s (D) 5 = 0 ∧ ra_g s (D) 6 = 0 ∧ ra_g s (D) 7 = 1 ∧ ra_g s (D) 8 = 4) (hz : ∀ p : Nat, p < 8 → ra_g s (D + 5 + p) 2 = 0) (hm : ((600 - v2 : Int)).toNat < nn), ra_P (g_Gs n f) g_sh 0 (d + 1) g_m_X0_clear 89 [some (.index (D)), none, some (ra_I v2), none, none, none] [] s (fun r9 s => rV r9 ∧ Fr (D) (D + 13) σ s ∧ (ra_g s (D) 4 = x0 ∧ ra_g s (D) 5 = 0 ∧ ra_g s (D) 6 = 0 ∧ ra_g s (D) 7 = 1 ∧ ra_g s (D) 8 = 4) ∧ ∀ p : Nat, p < 8 → ra_g s (D + 5 + p) 2 = 0) := by
  intro nn
  induction nn with
  | zero => intro v2 s hv2_0 hv2_1 hF hv hz hm; exact absurd hm (Nat.not_lt_zero _)
  | succ nn ih =>
    intro v2 s hv2_0 hv2_1 hF hv hz hm
    refine ra_load rfl rfl rfl rfl ?_
    refine ra_load rfl rfl rfl rfl ?_
    refine ra_getR rfl lk_0_9 (Nat.zero_le _) (sh_D hD) rfl ?_
    refine ra_alen rfl (sh_D1 hD) rfl ?_
    refine ra_icge rfl rfl (by first | omega | (unfold ra_in at *; omega)) (by first | omega | (unfold ra_in at *; omega)) (fun h32 => ?_) (fun h32 => ?_)
    · exact ra_return rfl rfl ⟨rfl, ⟨hF, (by omega), hz⟩⟩
    · refine ra_load rfl rfl rfl rfl ?_
      refine ra_getR rfl lk_0_9 (Nat.zero_le _) (sh_D hD) rfl ?_
      refine ra_load rfl rfl rfl rfl ?_
      refine ra_iconst rfl ?_
      refine ra_iastore rfl (sh_D1 hD) rfl (by decide) (by first | omega | (unfold ra_in at *; omega)) (by first | omega | (unfold ra_in at *; omega)) ?_
      refine ra_new Fr_up (fun s33 hs33 => ?_)
      have hF34 := Fr_tr (lo := D) (hi := D + 13) hF hs33 (by omega)
      have hk35 : s33 (D) = s (D) := (hs33 (D) (by omega))
      refine ra_iinc (L' := [_, _, _, _, _, _]) rfl rfl (Nat.le_of_ble_eq_true rfl) rfl ?_
      refine ra_goto rfl rfl ?_
      exact ra_weak (by repeat' constructor) (ih (v2 + 1) s33 (by first | omega | (unfold ra_in at *; omega)) (by first | omega | (unfold ra_in at *; omega)) hF34 (⟨(ra_gk hk35).trans (by omega), (ra_gk hk35).trans (by omega), (ra_gk hk35).trans (by omega), (ra_gk hk35).trans (by omega), (ra_gk hk35).trans (by omega)⟩) (fun p hp => (ra_gk (hs33 (D + 5 + p) (by omega))).trans (hz p hp)) (by first | omega | (unfold ra_in at *; omega)))
theorem l4_1_63 {n : Nat} {f : Nat → Int32} {d : Nat} {D : Nat} {x0 : Int} {σ : ra_V} (hD : isD D) (hx0 : ra_in x0) : ∀ (nn : Nat) (v4 : Int) (s : ra_V) (hv4_0 : 0 ≤ v4) (hv4_1 : v4 ≤ 8) (hF : Fr (D) (D + 13) σ s) (hv : ra_g s (D) 4 = x0 ∧ ra_g s (D) 5 = 0 ∧ ra_g s (D) 6 = 0 ∧ ra_g s (D) 7 = 1 ∧ ra_g s (D) 8 = 4) (hz : ∀ p : Nat, (p : Int) < v4 → ra_g s (D + 5 + p) 2 = 0) (hm : ((8 - v4 : Int)).toNat < nn), ra_P (g_Gs n f) g_sh 0 (d + 1) g_m_X0_clear 63 [some (.index (D)), none, some (.index (D + 2)), some (ra_I ((8 : Nat) : Int)), some (ra_I v4), none] [] s (fun r9 s => rV r9 ∧ Fr (D) (D + 13) σ s ∧ (ra_g s (D) 4 = x0 ∧ ra_g s (D) 5 = 0 ∧ ra_g s (D) 6 = 0 ∧ ra_g s (D) 7 = 1 ∧ ra_g s (D) 8 = 4) ∧ ∀ p : Nat, p < 8 → ra_g s (D + 5 + p) 2 = 0) := by
  intro nn
  induction nn with
  | zero => intro v4 s hv4_0 hv4_1 hF hv hz hm; exact absurd hm (Nat.not_lt_zero _)
  | succ nn ih =>
    intro v4 s hv4_0 hv4_1 hF hv hz hm
    refine ra_load rfl rfl rfl rfl ?_
    refine ra_load rfl rfl rfl rfl ?_
    refine ra_icge rfl rfl (by first | omega | (unfold ra_in at *; omega)) (by first | omega | (unfold ra_in at *; omega)) (fun h31 => ?_) (fun h31 => ?_)
    · refine ra_iconst rfl ?_
      refine ra_store (L' := [_, _, _, _, _, _]) rfl rfl rfl (Nat.le_of_ble_eq_true rfl) rfl ?_
      exact ra_weak (by repeat' constructor) (l4_1_89 hD hx0 _ (0) s (by first | omega | (unfold ra_in at *; omega)) (by first | omega | (unfold ra_in at *; omega)) hF (by omega) (fun p hp => hz p (by omega)) (Nat.lt_succ_self _))
    · refine ra_load rfl rfl rfl rfl ?_
      refine ra_load rfl rfl rfl rfl ?_
      refine ra_aaload rfl (sh_D2 hD) rfl (by decide) (by first | omega | (unfold ra_in at *; omega)) (by first | omega | (unfold ra_in at *; omega)) (sh_pt (by first | omega | (unfold ra_in at *; omega)) (by first | omega | (unfold ra_in at *; omega))) rfl ?_
      have hi36 : v4.toNat < 8 := (by first | omega | (unfold ra_in at *; omega))
      refine ra_store (L' := [_, _, _, _, _, _]) rfl rfl rfl (Nat.le_of_ble_eq_true rfl) rfl ?_
      refine ra_load rfl rfl rfl rfl ?_
      refine ra_iconst rfl ?_
      refine ra_putI rfl lk_0_65 (Nat.zero_le _) (sh_P hD hi36) rfl rfl ?_
      refine ra_newU (by first | omega | (unfold ra_in at *; omega)) (fun s37 hs37 hp38 hp38o => ?_)
      have hF39 := Fr_tr (lo := D) (hi := D + 13) hF hs37 (by omega)
      have hk40 : s37 (D) = s (D) := (hs37 (D) (by omega))
      refine ra_iinc (L' := [_, _, _, _, _, _]) rfl rfl (Nat.le_of_ble_eq_true rfl) rfl ?_
      refine ra_goto rfl rfl ?_
      exact ra_weak (by repeat' constructor) (ih (v4 + 1) s37 (by first | omega | (unfold ra_in at *; omega)) (by first | omega | (unfold ra_in at *; omega)) hF39 (⟨(ra_gk hk40).trans (by omega), (ra_gk hk40).trans (by omega), (ra_gk hk40).trans (by omega), (ra_gk hk40).trans (by omega), (ra_gk hk40).trans (by omega)⟩) (fun p hp => if e : p = v4.toNat then (by rw [e]; exact hp38) else (ra_gk (hs37 (D + 5 + p) (by omega))).trans (hz p (by omega))) (by first | omega | (unfold ra_in at *; omega)))
theorem s4_1 {n : Nat} {f : Nat → Int32} {d : Nat} {D : Nat} {x0 : Int} {σ : ra_V} (hD : isD D) (hx0 : ra_in x0) : ra_C (g_Gs n f) g_sh 0 (d + 2) 1 [.index (D), ra_I x0] σ (fun r9 s => rV r9 ∧ Fr (D) (D + 13) σ s ∧ (ra_g s (D) 4 = x0 ∧ ra_g s (D) 5 = 0 ∧ ra_g s (D) 6 = 0 ∧ ra_g s (D) 7 = 1 ∧ ra_g s (D) 8 = 4) ∧ ∀ p : Nat, p < 8 → ra_g s (D + 5 + p) 2 = 0) := by
  refine ra_enter (nn := 4) mt_1 rfl (Nat.le_of_ble_eq_true rfl) rfl (fun h => absurd h (by decide +kernel)) ?_
  refine ra_load rfl rfl rfl rfl ?_
  refine ra_load rfl rfl rfl rfl ?_
  refine ra_putI rfl lk_0_34 (Nat.zero_le _) (sh_D hD) rfl rfl ?_
  refine ra_newU hx0 (fun s1 hs1 hp2 hp2o => ?_)
  have hp2_5 := hp2o 5 (by decide)
  have hp2_6 := hp2o 6 (by decide)
  have hp2_7 := hp2o 7 (by decide)
  have hp2_8 := hp2o 8 (by decide)
  have hF3 := Fr_tr (lo := D) (hi := D + 13) Fr_rf hs1 (by omega)
  refine ra_load rfl rfl rfl rfl ?_
  refine ra_iconst rfl ?_
  refine ra_putI rfl lk_0_38 (Nat.zero_le _) (sh_D hD) rfl rfl ?_
  refine ra_newU (by first | omega | (unfold ra_in at *; omega)) (fun s4 hs4 hp5 hp5o => ?_)
  have hp5_4 := hp5o 4 (by decide)
  have hp5_6 := hp5o 6 (by decide)
  have hp5_7 := hp5o 7 (by decide)
  have hp5_8 := hp5o 8 (by decide)
  have hF6 := Fr_tr (lo := D) (hi := D + 13) hF3 hs4 (by omega)
  refine ra_load rfl rfl rfl rfl ?_
  refine ra_iconst rfl ?_
  refine ra_putI rfl lk_0_41 (Nat.zero_le _) (sh_D hD) rfl rfl ?_
  refine ra_newU (by first | omega | (unfold ra_in at *; omega)) (fun s7 hs7 hp8 hp8o => ?_)
  have hp8_4 := hp8o 4 (by decide)
  have hp8_5 := hp8o 5 (by decide)
  have hp8_7 := hp8o 7 (by decide)
  have hp8_8 := hp8o 8 (by decide)
  have hF9 := Fr_tr (lo := D) (hi := D + 13) hF6 hs7 (by omega)
  refine ra_load rfl rfl rfl rfl ?_
  refine ra_iconst rfl ?_
  refine ra_putI rfl lk_0_44 (Nat.zero_le _) (sh_D hD) rfl rfl ?_
  refine ra_newU (by first | omega | (unfold ra_in at *; omega)) (fun s10 hs10 hp11 hp11o => ?_)
  have hp11_4 := hp11o 4 (by decide)
  have hp11_5 := hp11o 5 (by decide)
  have hp11_6 := hp11o 6 (by decide)
  have hp11_8 := hp11o 8 (by decide)
  have hF12 := Fr_tr (lo := D) (hi := D + 13) hF9 hs10 (by omega)
  refine ra_load rfl rfl rfl rfl ?_
  refine ra_iconst rfl ?_
  refine ra_putI rfl lk_0_47 (Nat.zero_le _) (sh_D hD) rfl rfl ?_
  refine ra_newU (by first | omega | (unfold ra_in at *; omega)) (fun s13 hs13 hp14 hp14o => ?_)
  have hp14_4 := hp14o 4 (by decide)
  have hp14_5 := hp14o 5 (by decide)
  have hp14_6 := hp14o 6 (by decide)
  have hp14_7 := hp14o 7 (by decide)
  have hF15 := Fr_tr (lo := D) (hi := D + 13) hF12 hs13 (by omega)
  refine ra_load rfl rfl rfl rfl ?_
  refine ra_iconst rfl ?_
  refine ra_putI rfl lk_0_50 (Nat.zero_le _) (sh_D hD) rfl rfl ?_
  refine ra_newU (by first | omega | (unfold ra_in at *; omega)) (fun s16 hs16 hp17 hp17o => ?_)
  have hp17_4 := hp17o 4 (by decide)
  have hp17_5 := hp17o 5 (by decide)
  have hp17_6 := hp17o 6 (by decide)
  have hp17_7 := hp17o 7 (by decide)
  have hp17_8 := hp17o 8 (by decide)
  have hF18 := Fr_tr (lo := D) (hi := D + 13) hF15 hs16 (by omega)
  refine ra_load rfl rfl rfl rfl ?_
  refine ra_iconst rfl ?_
  refine ra_putI rfl lk_0_53 (Nat.zero_le _) (sh_D hD) rfl rfl ?_
  refine ra_newU (by first | omega | (unfold ra_in at *; omega)) (fun s19 hs19 hp20 hp20o => ?_)
  have hp20_4 := hp20o 4 (by decide)
  have hp20_5 := hp20o 5 (by decide)
  have hp20_6 := hp20o 6 (by decide)
  have hp20_7 := hp20o 7 (by decide)
  have hp20_8 := hp20o 8 (by decide)
  have hF21 := Fr_tr (lo := D) (hi := D + 13) hF18 hs19 (by omega)
  refine ra_load rfl rfl rfl rfl ?_
  refine ra_iconst rfl ?_
  refine ra_putI rfl lk_0_56 (Nat.zero_le _) (sh_D hD) rfl rfl ?_
  refine ra_newU (by first | omega | (unfold ra_in at *; omega)) (fun s22 hs22 hp23 hp23o => ?_)
  have hp23_4 := hp23o 4 (by decide)
  have hp23_5 := hp23o 5 (by decide)
  have hp23_6 := hp23o 6 (by decide)
  have hp23_7 := hp23o 7 (by decide)
  have hp23_8 := hp23o 8 (by decide)
  have hF24 := Fr_tr (lo := D) (hi := D + 13) hF21 hs22 (by omega)
  refine ra_load rfl rfl rfl rfl ?_
  refine ra_iconst rfl ?_
  refine ra_putI rfl lk_0_59 (Nat.zero_le _) (sh_D hD) rfl rfl ?_
  refine ra_newU (by first | omega | (unfold ra_in at *; omega)) (fun s25 hs25 hp26 hp26o => ?_)
  have hp26_4 := hp26o 4 (by decide)
  have hp26_5 := hp26o 5 (by decide)
  have hp26_6 := hp26o 6 (by decide)
  have hp26_7 := hp26o 7 (by decide)
  have hp26_8 := hp26o 8 (by decide)
  have hF27 := Fr_tr (lo := D) (hi := D + 13) hF24 hs25 (by omega)
  refine ra_load rfl rfl rfl rfl ?_
  refine ra_getR rfl lk_0_24 (Nat.zero_le _) (sh_D hD) rfl ?_
  refine ra_cV (sp_68 hD) rfl (ct_68 rfl lk_0_62 (Or.inl rfl) (sh_D3 hD) (Nat.le_of_ble_eq_true rfl)) (fun s28 hs28 => ?_)
  have hF29 := Fr_tr (lo := D) (hi := D + 13) hF27 hs28 (by omega)
  have hk30 : s28 (D) = s25 (D) := (hs28 (D) (by omega))
  refine ra_load rfl rfl rfl rfl ?_
  refine ra_getR rfl lk_0_17 (Nat.zero_le _) (sh_D hD) rfl ?_
  refine ra_store (L' := [_, _, _, _, _, _]) rfl rfl rfl (Nat.le_of_ble_eq_true rfl) rfl ?_
  refine ra_load rfl rfl rfl rfl ?_
  refine ra_alen rfl (sh_D2 hD) rfl ?_
  refine ra_store (L' := [_, _, _, _, _, _]) rfl rfl rfl (Nat.le_of_ble_eq_true rfl) rfl ?_
  refine ra_iconst rfl ?_
  refine ra_store (L' := [_, _, _, _, _, _]) rfl rfl rfl (Nat.le_of_ble_eq_true rfl) rfl ?_
  exact ra_weak (by repeat' constructor) (l4_1_63 hD hx0 _ (0) s28 (by first | omega | (unfold ra_in at *; omega)) (by first | omega | (unfold ra_in at *; omega)) hF29 (⟨(ra_gk hk30).trans (by omega), (ra_gk hk30).trans (by omega), (ra_gk hk30).trans (by omega), (ra_gk hk30).trans (by omega), (ra_gk hk30).trans (by omega)⟩) (fun p hp => by omega) (Nat.lt_succ_self _))
theorem s4_91 {n : Nat} {f : Nat → Int32} {d : Nat} {D i : Nat} {E0 i0 : Nat} {σ : ra_V} (hD : isD D) (hi : i < 8) (hE0 : isD E0) (hi0 : i0 < 8) (hne : D + 5 + i ≠ E0 + 5 + i0) : ra_C (g_Gs n f) g_sh 0 (d + 1) 91 [.index (D + 5 + i), .index (E0 + 5 + i0)] σ (fun r9 s => rV r9 ∧ Fr (D + 5 + i) (D + 5 + i + 1) σ s ∧ ra_g s (D + 5 + i) 2 = ra_g σ (E0 + 5 + i0) 2) := by
  refine ra_enter (nn := 0) mt_91 rfl (Nat.le_of_ble_eq_true rfl) rfl (fun h => absurd h (by decide +kernel)) ?_
  refine ra_load rfl rfl rfl rfl ?_
  refine ra_load rfl rfl rfl rfl ?_
  refine ra_getI rfl lk_5_15 (Nat.zero_le _) (sh_P hE0 hi0) rfl ?_
  have hr1 : ra_in (ra_g σ (E0 + 5 + i0) 1) := (ra_in_g _ _ _)
  refine ra_putI rfl lk_5_15 (Nat.zero_le _) (sh_P hD hi) rfl rfl ?_
  refine ra_newU hr1 (fun s2 hs2 hp3 hp3o => ?_)
  have hp3_2 := hp3o 2 (by decide)
  have hF4 := Fr_tr (lo := D + 5 + i) (hi := D + 5 + i + 1) Fr_rf hs2 (by omega)
  have hk5 : s2 (E0 + 5 + i0) = σ (E0 + 5 + i0) := (hs2 (E0 + 5 + i0) (by omega))
  refine ra_load rfl rfl rfl rfl ?_
  refine ra_load rfl rfl rfl rfl ?_
  refine ra_getI rfl lk_5_18 (Nat.zero_le _) (sh_P hE0 hi0) rfl ?_
  rw [ra_gk hk5]
  have hr6 : ra_in (ra_g σ (E0 + 5 + i0) 2) := (ra_in_g _ _ _)
  refine ra_putI rfl lk_5_18 (Nat.zero_le _) (sh_P hD hi) rfl rfl ?_
  refine ra_newU hr6 (fun s7 hs7 hp8 hp8o => ?_)
  have hF9 := Fr_tr (lo := D + 5 + i) (hi := D + 5 + i + 1) hF4 hs7 (by omega)
  have hk10 : s7 (E0 + 5 + i0) = σ (E0 + 5 + i0) := (hs7 (E0 + 5 + i0) (by omega)).trans hk5
  refine ra_load rfl rfl rfl rfl ?_
  refine ra_load rfl rfl rfl rfl ?_
  refine ra_getI rfl lk_5_21 (Nat.zero_le _) (sh_P hE0 hi0) rfl ?_
  rw [ra_gk hk10]
  have hr11 : ra_in (ra_g σ (E0 + 5 + i0) 3) := (ra_in_g _ _ _)
  refine ra_putI rfl lk_5_21 (Nat.zero_le _) (sh_P hD hi) rfl rfl ?_
  refine ra_newU hr11 (fun s12 hs12 hp13 hp13o => ?_)
  have hp13_2 := hp13o 2 (by decide)
  have hF14 := Fr_tr (lo := D + 5 + i) (hi := D + 5 + i + 1) hF9 hs12 (by omega)
  have hk15 : s12 (E0 + 5 + i0) = σ (E0 + 5 + i0) := (hs12 (E0 + 5 + i0) (by omega)).trans hk10
  refine ra_load rfl rfl rfl rfl ?_
  refine ra_load rfl rfl rfl rfl ?_
  refine ra_getI rfl lk_5_24 (Nat.zero_le _) (sh_P hE0 hi0) rfl ?_
  rw [ra_gk hk15]
  have hr16 : ra_in (ra_g σ (E0 + 5 + i0) 4) := (ra_in_g _ _ _)
  refine ra_putI rfl lk_5_24 (Nat.zero_le _) (sh_P hD hi) rfl rfl ?_
  refine ra_newU hr16 (fun s17 hs17 hp18 hp18o => ?_)
  have hp18_2 := hp18o 2 (by decide)
  have hF19 := Fr_tr (lo := D + 5 + i) (hi := D + 5 + i + 1) hF14 hs17 (by omega)
  have hk20 : s17 (E0 + 5 + i0) = σ (E0 + 5 + i0) := (hs17 (E0 + 5 + i0) (by omega)).trans hk15
  refine ra_load rfl rfl rfl rfl ?_
  refine ra_load rfl rfl rfl rfl ?_
  refine ra_getBw rfl lk_5_27 (Nat.zero_le _) (sh_P hE0 hi0) rfl (fun z21 hz21 => ?_)
  refine ra_putB rfl lk_5_27 (Nat.zero_le _) (sh_P hD hi) rfl rfl hz21 ?_
  refine ra_newU (ra_in01 hz21) (fun s22 hs22 hp23 hp23o => ?_)
  have hp23_2 := hp23o 2 (by decide)
  have hF24 := Fr_tr (lo := D + 5 + i) (hi := D + 5 + i + 1) hF19 hs22 (by omega)
  have hk25 : s22 (E0 + 5 + i0) = σ (E0 + 5 + i0) := (hs22 (E0 + 5 + i0) (by omega)).trans hk20
  refine ra_load rfl rfl rfl rfl ?_
  refine ra_load rfl rfl rfl rfl ?_
  refine ra_getI rfl lk_5_31 (Nat.zero_le _) (sh_P hE0 hi0) rfl ?_
  rw [ra_gk hk25]
  have hr26 : ra_in (ra_g σ (E0 + 5 + i0) 6) := (ra_in_g _ _ _)
  refine ra_putI rfl lk_5_31 (Nat.zero_le _) (sh_P hD hi) rfl rfl ?_
  refine ra_newU hr26 (fun s27 hs27 hp28 hp28o => ?_)
  have hp28_2 := hp28o 2 (by decide)
  have hF29 := Fr_tr (lo := D + 5 + i) (hi := D + 5 + i + 1) hF24 hs27 (by omega)
  have hk30 : s27 (E0 + 5 + i0) = σ (E0 + 5 + i0) := (hs27 (E0 + 5 + i0) (by omega)).trans hk25
  refine ra_load rfl rfl rfl rfl ?_
  refine ra_load rfl rfl rfl rfl ?_
  refine ra_getI rfl lk_5_34 (Nat.zero_le _) (sh_P hE0 hi0) rfl ?_
  rw [ra_gk hk30]
  have hr31 : ra_in (ra_g σ (E0 + 5 + i0) 7) := (ra_in_g _ _ _)
  refine ra_putI rfl lk_5_34 (Nat.zero_le _) (sh_P hD hi) rfl rfl ?_
  refine ra_newU hr31 (fun s32 hs32 hp33 hp33o => ?_)
  have hp33_2 := hp33o 2 (by decide)
  have hF34 := Fr_tr (lo := D + 5 + i) (hi := D + 5 + i + 1) hF29 hs32 (by omega)
  have hk35 : s32 (E0 + 5 + i0) = σ (E0 + 5 + i0) := (hs32 (E0 + 5 + i0) (by omega)).trans hk30
  exact ra_return rfl rfl ⟨rfl, ⟨hF34, by omega⟩⟩
theorem l4_2_85 {n : Nat} {f : Nat → Int32} {d : Nat} {D : Nat} {E0 : Nat} {σ : ra_V} (hD : isD D) (hE0 : isD E0) (hDE : D = 1 ∧ E0 = 14) : ∀ (nn : Nat) (v2 : Int) (s : ra_V) (hv2_0 : 0 ≤ v2) (hv2_1 : v2 ≤ 8) (hF : Fr (D) (D + 13) σ s) (hz : ∀ p : Nat, (p : Int) < v2 → ra_g s (D + 5 + p) 2 = ra_g σ (E0 + 5 + p) 2) (hm : ((8 - v2 : Int)).toNat < nn), ra_P (g_Gs n f) g_sh 0 (d + 1) g_m_X0_copyFrom 85 [some (.index (D)), some (.index (E0)), some (ra_I v2)] [] s (fun r9 s => rV r9 ∧ Fr (D) (D + 13) σ s ∧ ∀ p : Nat, p < 8 → ra_g s (D + 5 + p) 2 = ra_g σ (E0 + 5 + p) 2) := by
  intro nn
  induction nn with
  | zero => intro v2 s hv2_0 hv2_1 hF hz hm; exact absurd hm (Nat.not_lt_zero _)
  | succ nn ih =>
    intro v2 s hv2_0 hv2_1 hF hz hm
    refine ra_load rfl rfl rfl rfl ?_
    refine ra_bipush rfl (by decide) ?_
    refine ra_icge rfl rfl (by first | omega | (unfold ra_in at *; omega)) (by first | omega | (unfold ra_in at *; omega)) (fun h30 => ?_) (fun h30 => ?_)
    · refine ra_load rfl rfl rfl rfl ?_
      refine ra_getR rfl lk_0_9 (Nat.zero_le _) (sh_D hE0) rfl ?_
      refine ra_iconst rfl ?_
      refine ra_load rfl rfl rfl rfl ?_
      refine ra_getR rfl lk_0_9 (Nat.zero_le _) (sh_D hD) rfl ?_
      refine ra_iconst rfl ?_
      refine ra_sipush rfl (by decide) ?_
      refine ra_acopy rfl lk_0_75 (sh_D1 hE0) (sh_D1 hD) rfl (by decide) (by decide) rfl rfl (Nat.le_of_ble_eq_true rfl) ?_
      refine ra_new Fr_cpy (fun s31 hs31 => ?_)
      have hF32 := Fr_tr (lo := D) (hi := D + 13) hF hs31 (by omega)
      exact ra_return rfl rfl ⟨rfl, ⟨hF32, fun p hp => (ra_gk (hs31 (D + 5 + p) (by omega))).trans (hz p (by omega))⟩⟩
    · refine ra_load rfl rfl rfl rfl ?_
      refine ra_getR rfl lk_0_17 (Nat.zero_le _) (sh_D hD) rfl ?_
      refine ra_load rfl rfl rfl rfl ?_
      refine ra_aaload rfl (sh_D2 hD) rfl (by decide) (by first | omega | (unfold ra_in at *; omega)) (by first | omega | (unfold ra_in at *; omega)) (sh_pt (by first | omega | (unfold ra_in at *; omega)) (by first | omega | (unfold ra_in at *; omega))) rfl ?_
      have hi33 : v2.toNat < 8 := (by first | omega | (unfold ra_in at *; omega))
      refine ra_load rfl rfl rfl rfl ?_
      refine ra_getR rfl lk_0_17 (Nat.zero_le _) (sh_D hE0) rfl ?_
      refine ra_load rfl rfl rfl rfl ?_
      refine ra_aaload rfl (sh_D2 hE0) rfl (by decide) (by first | omega | (unfold ra_in at *; omega)) (by first | omega | (unfold ra_in at *; omega)) (sh_pt (by first | omega | (unfold ra_in at *; omega)) (by first | omega | (unfold ra_in at *; omega))) rfl ?_
      have hi34 : v2.toNat < 8 := (by first | omega | (unfold ra_in at *; omega))
      refine ra_cV (s4_91 hD hi33 hE0 hi34 (by omega)) rfl (ct_91 rfl lk_0_72 (Or.inl rfl) (sh_P hD hi33) (Nat.le_of_ble_eq_true rfl)) (fun s35 hs35 => ?_)
      obtain ⟨hf36, he37⟩ := hs35
      have hF38 := Fr_tr (lo := D) (hi := D + 13) hF hf36 (by omega)
      refine ra_iinc (L' := [_, _, _]) rfl rfl (Nat.le_of_ble_eq_true rfl) rfl ?_
      refine ra_goto rfl rfl ?_
      exact ra_weak (by repeat' constructor) (ih (v2 + 1) s35 (by first | omega | (unfold ra_in at *; omega)) (by first | omega | (unfold ra_in at *; omega)) hF38 (fun p hp => if e : p = v2.toNat then (by rw [e]; exact he37.trans (ra_gk (hF (E0 + 5 + v2.toNat) (by omega)))) else (ra_gk (hf36 (D + 5 + p) (by omega))).trans (hz p (by omega))) (by first | omega | (unfold ra_in at *; omega)))
theorem s4_2 {n : Nat} {f : Nat → Int32} {d : Nat} {D : Nat} {E0 : Nat} {σ : ra_V} (hD : isD D) (hE0 : isD E0) (hDE : D = 1 ∧ E0 = 14) : ra_C (g_Gs n f) g_sh 0 (d + 2) 2 [.index (D), .index (E0)] σ (fun r9 s => rV r9 ∧ Fr (D) (D + 13) σ s ∧ ∀ p : Nat, p < 8 → ra_g s (D + 5 + p) 2 = ra_g σ (E0 + 5 + p) 2) := by
  refine ra_enter (nn := 1) mt_2 rfl (Nat.le_of_ble_eq_true rfl) rfl (fun h => absurd h (by decide +kernel)) ?_
  refine ra_load rfl rfl rfl rfl ?_
  refine ra_load rfl rfl rfl rfl ?_
  refine ra_getI rfl lk_0_34 (Nat.zero_le _) (sh_D hE0) rfl ?_
  have hr1 : ra_in (ra_g σ (E0) 4) := (ra_in_g _ _ _)
  refine ra_putI rfl lk_0_34 (Nat.zero_le _) (sh_D hD) rfl rfl ?_
  refine ra_new Fr_up (fun s2 hs2 => ?_)
  have hF3 := Fr_tr (lo := D) (hi := D + 13) Fr_rf hs2 (by omega)
  refine ra_load rfl rfl rfl rfl ?_
  refine ra_load rfl rfl rfl rfl ?_
  refine ra_getI rfl lk_0_38 (Nat.zero_le _) (sh_D hE0) rfl ?_
  have hr4 : ra_in (ra_g s2 (E0) 5) := (ra_in_g _ _ _)
  refine ra_putI rfl lk_0_38 (Nat.zero_le _) (sh_D hD) rfl rfl ?_
  refine ra_new Fr_up (fun s5 hs5 => ?_)
  have hF6 := Fr_tr (lo := D) (hi := D + 13) hF3 hs5 (by omega)
  refine ra_load rfl rfl rfl rfl ?_
  refine ra_load rfl rfl rfl rfl ?_
  refine ra_getI rfl lk_0_41 (Nat.zero_le _) (sh_D hE0) rfl ?_
  have hr7 : ra_in (ra_g s5 (E0) 6) := (ra_in_g _ _ _)
  refine ra_putI rfl lk_0_41 (Nat.zero_le _) (sh_D hD) rfl rfl ?_
  refine ra_new Fr_up (fun s8 hs8 => ?_)
  have hF9 := Fr_tr (lo := D) (hi := D + 13) hF6 hs8 (by omega)
  refine ra_load rfl rfl rfl rfl ?_
  refine ra_load rfl rfl rfl rfl ?_
  refine ra_getI rfl lk_0_44 (Nat.zero_le _) (sh_D hE0) rfl ?_
  have hr10 : ra_in (ra_g s8 (E0) 7) := (ra_in_g _ _ _)
  refine ra_putI rfl lk_0_44 (Nat.zero_le _) (sh_D hD) rfl rfl ?_
  refine ra_new Fr_up (fun s11 hs11 => ?_)
  have hF12 := Fr_tr (lo := D) (hi := D + 13) hF9 hs11 (by omega)
  refine ra_load rfl rfl rfl rfl ?_
  refine ra_load rfl rfl rfl rfl ?_
  refine ra_getI rfl lk_0_47 (Nat.zero_le _) (sh_D hE0) rfl ?_
  have hr13 : ra_in (ra_g s11 (E0) 8) := (ra_in_g _ _ _)
  refine ra_putI rfl lk_0_47 (Nat.zero_le _) (sh_D hD) rfl rfl ?_
  refine ra_new Fr_up (fun s14 hs14 => ?_)
  have hF15 := Fr_tr (lo := D) (hi := D + 13) hF12 hs14 (by omega)
  refine ra_load rfl rfl rfl rfl ?_
  refine ra_load rfl rfl rfl rfl ?_
  refine ra_getI rfl lk_0_50 (Nat.zero_le _) (sh_D hE0) rfl ?_
  have hr16 : ra_in (ra_g s14 (E0) 9) := (ra_in_g _ _ _)
  refine ra_putI rfl lk_0_50 (Nat.zero_le _) (sh_D hD) rfl rfl ?_
  refine ra_new Fr_up (fun s17 hs17 => ?_)
  have hF18 := Fr_tr (lo := D) (hi := D + 13) hF15 hs17 (by omega)
  refine ra_load rfl rfl rfl rfl ?_
  refine ra_load rfl rfl rfl rfl ?_
  refine ra_getI rfl lk_0_53 (Nat.zero_le _) (sh_D hE0) rfl ?_
  have hr19 : ra_in (ra_g s17 (E0) 10) := (ra_in_g _ _ _)
  refine ra_putI rfl lk_0_53 (Nat.zero_le _) (sh_D hD) rfl rfl ?_
  refine ra_new Fr_up (fun s20 hs20 => ?_)
  have hF21 := Fr_tr (lo := D) (hi := D + 13) hF18 hs20 (by omega)
  refine ra_load rfl rfl rfl rfl ?_
  refine ra_load rfl rfl rfl rfl ?_
  refine ra_getI rfl lk_0_56 (Nat.zero_le _) (sh_D hE0) rfl ?_
  have hr22 : ra_in (ra_g s20 (E0) 11) := (ra_in_g _ _ _)
  refine ra_putI rfl lk_0_56 (Nat.zero_le _) (sh_D hD) rfl rfl ?_
  refine ra_new Fr_up (fun s23 hs23 => ?_)
  have hF24 := Fr_tr (lo := D) (hi := D + 13) hF21 hs23 (by omega)
  refine ra_load rfl rfl rfl rfl ?_
  refine ra_load rfl rfl rfl rfl ?_
  refine ra_getI rfl lk_0_59 (Nat.zero_le _) (sh_D hE0) rfl ?_
  have hr25 : ra_in (ra_g s23 (E0) 12) := (ra_in_g _ _ _)
  refine ra_putI rfl lk_0_59 (Nat.zero_le _) (sh_D hD) rfl rfl ?_
  refine ra_new Fr_up (fun s26 hs26 => ?_)
  have hF27 := Fr_tr (lo := D) (hi := D + 13) hF24 hs26 (by omega)
  refine ra_load rfl rfl rfl rfl ?_
  refine ra_getR rfl lk_0_24 (Nat.zero_le _) (sh_D hD) rfl ?_
  refine ra_load rfl rfl rfl rfl ?_
  refine ra_getR rfl lk_0_24 (Nat.zero_le _) (sh_D hE0) rfl ?_
  refine ra_cV (sp_66 hD hE0) rfl (ct_66 rfl lk_0_68 (Or.inl rfl) (sh_D3 hD) (Nat.le_of_ble_eq_true rfl)) (fun s28 hs28 => ?_)
  have hF29 := Fr_tr (lo := D) (hi := D + 13) hF27 hs28 (by omega)
  refine ra_iconst rfl ?_
  refine ra_store (L' := [_, _, _]) rfl rfl rfl (Nat.le_of_ble_eq_true rfl) rfl ?_
  exact ra_weak (by repeat' constructor) (l4_2_85 hD hE0 hDE _ (0) s28 (by first | omega | (unfold ra_in at *; omega)) (by first | omega | (unfold ra_in at *; omega)) hF29 (fun p hp => by omega) (Nat.lt_succ_self _))
end
