/-! T4: what the class's methods that read a text do (printed by wip/gen/c4.py) -/
section
variable {B : Nat → Int} {bn ps ta : Nat} {pk uv al : Int} {r : Nat → Int}
theorem s4_114 {n : Nat} {f : Nat → Int32} {d : Nat} {x0 : Int} {x1 : Int} {x2 : Int} {x3 : Int} {x4 : Int} {σ : ra_V} (hx0 : ra_in x0) (hx1 : ra_in x1) (hx2 : ra_in x2) (hx3 : ra_in x3) (hx4 : ra_in x4) (hl : 0 ≤ ra_g σ (175) 1 ∧ ra_g σ (175) 1 ≤ 500) : ra_C (g_Gs n f) g_sh 0 (d + 2) 114 [.index (0), ra_I x0, ra_I x1, ra_I x2, ra_I x3, ra_I x4] σ (fun r s => r = .inl (some (ra_I (if ra_g σ (175) 1 + 20 ≤ 500 then ra_g σ (175) 1 + 20 else -1))) ∧ Fr (175) (177) σ s ∧ ra_g s (175) 1 = (if ra_g σ (175) 1 + 20 ≤ 500 then ra_g σ (175) 1 + 20 else ra_g σ (175) 1) ∧ (ra_g s 175 2 = ra_g σ 175 2 ∧ ra_g s 175 3 = ra_g σ 175 3) ∧ (ra_g σ (175) 1 + 20 ≤ 500 → ∀ i : Nat, (i : Int) < ra_g σ (175) 1 + 20 → ra_g s 176 i = x4ap5 (ra_g σ 176) (ra_g σ 175 1).toNat x0 x1 x2 x3 x4 i) ∧ (500 < ra_g σ (175) 1 + 20 → s 176 = σ 176)) := by
  refine ra_enter (nn := 0) mt_114 rfl (Nat.le_of_ble_eq_true rfl) rfl (fun h => absurd h (by decide +kernel)) ?_
  refine ra_load rfl rfl rfl rfl ?_
  refine ra_getR rfl lk_7_39 (Nat.zero_le _) sh_0 rfl ?_
  refine ra_bipush rfl (by decide) ?_
  refine ra_cTp (sp_97 (by first | omega | (unfold ra_in at *; omega)) (by first | assumption | rfl | omega)) rfl (ct_97 rfl lk_7_54 (Or.inl rfl) sh_175 (Nat.le_of_ble_eq_true rfl)) ?_
  refine ra_ifneB rfl rfl (fun h2 => ?_) (fun h2 => ?_)
  · refine ra_load rfl rfl rfl rfl ?_
    refine ra_getR rfl lk_7_39 (Nat.zero_le _) sh_0 rfl ?_
    refine ra_load rfl rfl rfl rfl ?_
    refine ra_cV (s4_98 hx0 (by first | assumption | rfl | omega)) rfl (ct_98 rfl lk_7_58 (Or.inl rfl) sh_175 (Nat.le_of_ble_eq_true rfl)) (fun s3 hs3 => ?_)
    obtain ⟨hf4, he5, he6, he7⟩ := hs3
    have hF8 := Fr_tr (lo := 175) (hi := 177) Fr_rf hf4 (by omega)
    refine ra_load rfl rfl rfl rfl ?_
    refine ra_getR rfl lk_7_39 (Nat.zero_le _) sh_0 rfl ?_
    refine ra_load rfl rfl rfl rfl ?_
    refine ra_cV (s4_98 hx1 (by first | assumption | rfl | omega)) rfl (ct_98 rfl lk_7_58 (Or.inl rfl) sh_175 (Nat.le_of_ble_eq_true rfl)) (fun s9 hs9 => ?_)
    obtain ⟨hf10, he11, he12, he13⟩ := hs9
    have hF14 := Fr_tr (lo := 175) (hi := 177) hF8 hf10 (by omega)
    refine ra_load rfl rfl rfl rfl ?_
    refine ra_getR rfl lk_7_39 (Nat.zero_le _) sh_0 rfl ?_
    refine ra_load rfl rfl rfl rfl ?_
    refine ra_cV (s4_98 hx2 (by first | assumption | rfl | omega)) rfl (ct_98 rfl lk_7_58 (Or.inl rfl) sh_175 (Nat.le_of_ble_eq_true rfl)) (fun s15 hs15 => ?_)
    obtain ⟨hf16, he17, he18, he19⟩ := hs15
    have hF20 := Fr_tr (lo := 175) (hi := 177) hF14 hf16 (by omega)
    refine ra_load rfl rfl rfl rfl ?_
    refine ra_getR rfl lk_7_39 (Nat.zero_le _) sh_0 rfl ?_
    refine ra_load rfl rfl rfl rfl ?_
    refine ra_cV (s4_98 hx3 (by first | assumption | rfl | omega)) rfl (ct_98 rfl lk_7_58 (Or.inl rfl) sh_175 (Nat.le_of_ble_eq_true rfl)) (fun s21 hs21 => ?_)
    obtain ⟨hf22, he23, he24, he25⟩ := hs21
    have hF26 := Fr_tr (lo := 175) (hi := 177) hF20 hf22 (by omega)
    refine ra_load rfl rfl rfl rfl ?_
    refine ra_getR rfl lk_7_39 (Nat.zero_le _) sh_0 rfl ?_
    refine ra_load rfl rfl rfl rfl ?_
    refine ra_cV (s4_98 hx4 (by first | assumption | rfl | omega)) rfl (ct_98 rfl lk_7_58 (Or.inl rfl) sh_175 (Nat.le_of_ble_eq_true rfl)) (fun s27 hs27 => ?_)
    obtain ⟨hf28, he29, he30, he31⟩ := hs27
    have hF32 := Fr_tr (lo := 175) (hi := 177) hF26 hf28 (by omega)
    refine ra_load rfl rfl rfl rfl ?_
    refine ra_getR rfl lk_7_39 (Nat.zero_le _) sh_0 rfl ?_
    refine ra_getI rfl lk_7_61 (Nat.zero_le _) sh_175 rfl ?_
    have hr33 : ra_in (ra_g s27 (175) 1) := (ra_in_g _ _ _)
    exact ra_ireturn rfl rfl ⟨by rw [if_pos (by omega)]; exact congrArg (fun z => Sum.inl (some (ra_I z))) (by omega), hF32, by rw [if_pos (by omega)]; omega, by omega, fun _ i hi => x4ap_5 (g1 := ra_g s3 176) (g2 := ra_g s9 176) (g3 := ra_g s15 176) (g4 := ra_g s21 176) (g5 := ra_g s27 176) (fun i hi => by have q := he7 i (by omega); rw [show (ra_g σ 175 1).toNat = (ra_g σ 175 1).toNat by omega] at q; exact q) (fun i hi => by have q := he13 i (by omega); rw [show (ra_g s3 175 1).toNat = ((ra_g σ 175 1).toNat + 4) by omega] at q; exact q) (fun i hi => by have q := he19 i (by omega); rw [show (ra_g s9 175 1).toNat = ((ra_g σ 175 1).toNat + 8) by omega] at q; exact q) (fun i hi => by have q := he25 i (by omega); rw [show (ra_g s15 175 1).toNat = ((ra_g σ 175 1).toNat + 12) by omega] at q; exact q) (fun i hi => by have q := he31 i (by omega); rw [show (ra_g s21 175 1).toNat = ((ra_g σ 175 1).toNat + 16) by omega] at q; exact q) i (by omega), fun q => by omega⟩
  · refine ra_iconst rfl ?_
    exact ra_ireturn rfl rfl ⟨by rw [if_neg (by omega)], Fr_rf, by rw [if_neg (by omega)], ⟨rfl, rfl⟩, fun q => by omega, fun _ => rfl⟩
theorem s4_115 {n : Nat} {f : Nat → Int32} {d : Nat} {x0 : Int} {σ : ra_V} (hx0 : ra_in x0) (hl : 0 ≤ ra_g σ (175) 1 ∧ ra_g σ (175) 1 ≤ 500) : ra_C (g_Gs n f) g_sh 0 (d + 1) 115 [.index (0), ra_I x0] σ (fun r s => r = .inl (some (ra_B (0 ≤ x0 ∧ x0 ≤ ra_g σ (175) 1))) ∧ Fr (175) (177) σ s ∧ ra_g s (175) 1 = (if 0 ≤ x0 ∧ x0 ≤ ra_g σ (175) 1 then x0 else ra_g σ (175) 1) ∧ (ra_g s 175 2 = ra_g σ 175 2 ∧ ra_g s 175 3 = ra_g σ 175 3) ∧ s 176 = σ 176) := by
  refine ra_enter (nn := 0) mt_115 rfl (Nat.le_of_ble_eq_true rfl) rfl (fun h => absurd h (by decide +kernel)) ?_
  refine ra_load rfl rfl rfl rfl ?_
  refine ra_iflt rfl rfl hx0 (fun h1 => ?_) (fun h1 => ?_)
  · refine ra_iconst rfl ?_
    exact ra_ireturn rfl (ra_okB (Or.inl rfl)) ⟨by unfold ra_B; rw [if_neg (by omega)], Fr_rf, by rw [if_neg (by omega)], ⟨rfl, rfl⟩, rfl⟩
  · refine ra_load rfl rfl rfl rfl ?_
    refine ra_load rfl rfl rfl rfl ?_
    refine ra_getR rfl lk_7_39 (Nat.zero_le _) sh_0 rfl ?_
    refine ra_getI rfl lk_7_61 (Nat.zero_le _) sh_175 rfl ?_
    have hr2 : ra_in (ra_g σ (175) 1) := (ra_in_g _ _ _)
    refine ra_icle rfl rfl hx0 hr2 (fun h3 => ?_) (fun h3 => ?_)
    · refine ra_load rfl rfl rfl rfl ?_
      refine ra_getR rfl lk_7_39 (Nat.zero_le _) sh_0 rfl ?_
      refine ra_load rfl rfl rfl rfl ?_
      refine ra_putI rfl lk_7_61 (Nat.zero_le _) sh_175 rfl rfl ?_
      refine ra_newU hx0 (fun s4 hs4 hp5 hp5o => ?_)
      have hp5_2 := hp5o 2 (by decide)
      have hp5_3 := hp5o 3 (by decide)
      have hF6 := Fr_tr (lo := 175) (hi := 177) Fr_rf hs4 (by omega)
      have hk7 : s4 (176) = σ (176) := (hs4 (176) (by omega))
      refine ra_iconst rfl ?_
      exact ra_ireturn rfl (ra_okB (Or.inr rfl)) ⟨by unfold ra_B; rw [if_pos (by omega)], hF6, by rw [if_pos (by omega)]; assumption, by omega, hk7⟩
    · refine ra_iconst rfl ?_
      exact ra_ireturn rfl (ra_okB (Or.inl rfl)) ⟨by unfold ra_B; rw [if_neg (by omega)], Fr_rf, by rw [if_neg (by omega)], ⟨rfl, rfl⟩, rfl⟩
theorem s4_117 {n : Nat} {f : Nat → Int32} {d : Nat}  {σ : ra_V}  : ra_C (g_Gs n f) g_sh 0 (d + 1) 117 [.index (0)] σ (fun r9 s => r9 = .inl (some (ra_I (ra_g σ 175 2))) ∧ s = σ) := by
  refine ra_enter (nn := 0) mt_117 rfl (Nat.le_of_ble_eq_true rfl) rfl (fun h => absurd h (by decide +kernel)) ?_
  refine ra_load rfl rfl rfl rfl ?_
  refine ra_getR rfl lk_7_39 (Nat.zero_le _) sh_0 rfl ?_
  refine ra_getI rfl lk_7_87 (Nat.zero_le _) sh_175 rfl ?_
  have hr1 : ra_in (ra_g σ (175) 2) := (ra_in_g _ _ _)
  exact ra_ireturn rfl rfl ⟨(congrArg (fun z => Sum.inl (some (ra_I z))) rfl), rfl⟩
theorem s4_118 {n : Nat} {f : Nat → Int32} {d : Nat}  {σ : ra_V}  : ra_C (g_Gs n f) g_sh 0 (d + 1) 118 [.index (0)] σ (fun r9 s => r9 = .inl (some (ra_I (ra_g σ 175 3))) ∧ s = σ) := by
  refine ra_enter (nn := 0) mt_118 rfl (Nat.le_of_ble_eq_true rfl) rfl (fun h => absurd h (by decide +kernel)) ?_
  refine ra_load rfl rfl rfl rfl ?_
  refine ra_getR rfl lk_7_39 (Nat.zero_le _) sh_0 rfl ?_
  refine ra_getI rfl lk_7_90 (Nat.zero_le _) sh_175 rfl ?_
  have hr1 : ra_in (ra_g σ (175) 3) := (ra_in_g _ _ _)
  exact ra_ireturn rfl rfl ⟨(congrArg (fun z => Sum.inl (some (ra_I z))) rfl), rfl⟩
end
