/-! the class: what its methods do, told weakly (printed by wip/gen/cls.py) -/
section CW
theorem sp_116 {n : Nat} {f : Nat → Int32} {d : Nat}  {σ : ra_V} (hci : CI σ) : ra_C (g_Gs n f) g_sh 0 (d + 10) 116 [.index (0)] σ (fun r s => rI r ∧ Fr (0) (179) σ s ∧ CI s ∧ ra_g s (175) 1 = 0) := by
  refine ra_enter (nn := 1) mt_116 rfl (Nat.le_of_ble_eq_true rfl) rfl (fun h => absurd h (by decide +kernel)) ?_
  refine ra_load rfl rfl rfl rfl ?_
  refine ra_getR rfl lk_7_39 (Nat.zero_le _) sh_0 rfl ?_
  refine ra_load rfl rfl rfl rfl ?_
  refine ra_getR rfl lk_7_16 (Nat.zero_le _) sh_0 rfl ?_
  refine ra_cB (sp_99 isD_14 (by first | assumption | rfl | omega)) rfl (ct_99 rfl lk_7_65 (Or.inl rfl) sh_175 (Nat.le_of_ble_eq_true rfl)) (fun z2 s1  hz2 hs1 => ?_)
  obtain ⟨hf3, hc4⟩ := hs1
  have hF5 := Fr_tr (lo := 0) (hi := 179) Fr_rf hf3 (by omega)
  have hci6 : CI s1 := (by have hz := hci; unfold CI at hz ⊢; rw [ra_gk hc4]; exact hz)
  refine ra_store (L' := [_, _]) rfl rfl rfl (Nat.le_of_ble_eq_true rfl) rfl ?_
  refine ra_load rfl rfl rfl rfl ?_
  refine ra_getR rfl lk_7_39 (Nat.zero_le _) sh_0 rfl ?_
  refine ra_iconst rfl ?_
  refine ra_putI rfl lk_7_61 (Nat.zero_le _) sh_175 rfl rfl ?_
  refine ra_newU (by first | omega | (unfold ra_in at *; omega)) (fun s7 hs7 hp8 hp8o => ?_)
  have hp8_4 := hp8o 4 (by decide)
  have hF9 := Fr_tr (lo := 0) (hi := 179) hF5 hs7 (by omega)
  have hci10 : CI s7 := CI_fr hci6 hs7 (by omega)
  refine ra_load rfl rfl rfl rfl ?_
  refine ra_ifne rfl rfl (ra_in01 hz2) (fun h11 => ?_) (fun h11 => ?_)
  · refine ra_load rfl rfl rfl rfl ?_
    refine ra_getR rfl lk_7_10 (Nat.zero_le _) sh_0 rfl ?_
    refine ra_load rfl rfl rfl rfl ?_
    refine ra_getR rfl lk_7_16 (Nat.zero_le _) sh_0 rfl ?_
    refine ra_cV (sp_2 isD_1 isD_14) rfl (ct_2 rfl lk_7_69 (Or.inl rfl) (sh_D isD_1) (Nat.le_of_ble_eq_true rfl)) (fun s12 hs12 => ?_)
    have hF13 := Fr_tr (lo := 0) (hi := 179) hF9 hs12 (by omega)
    have hci14 : CI s12 := CI_fr hci10 hs12 (by omega)
    have hk15 : s12 (175) = s7 (175) := (hs12 (175) (by omega))
    refine ra_load rfl rfl rfl rfl ?_
    refine ra_getR rfl lk_7_25 (Nat.zero_le _) sh_0 rfl ?_
    refine ra_cV (sp_64 hci14) rfl (ct_64 rfl lk_7_73 (Or.inl rfl) sh_40 (Nat.le_of_ble_eq_true rfl)) (fun s16 hs16 => ?_)
    obtain ⟨hf17, he18⟩ := hs16
    have hF19 := Fr_tr (lo := 0) (hi := 179) hF13 hf17 (by omega)
    have hci20 : CI s16 := he18
    have hk21 : s16 (175) = s7 (175) := (hf17 (175) (by omega)).trans hk15
    refine ra_load rfl rfl rfl rfl ?_
    refine ra_iconst rfl ?_
    refine ra_putB rfl lk_7_76 (Nat.zero_le _) sh_0 rfl rfl (Or.inl rfl) ?_
    refine ra_new Fr_up (fun s22 hs22 => ?_)
    have hF23 := Fr_tr (lo := 0) (hi := 179) hF19 hs22 (by omega)
    have hci24 : CI s22 := CI_fr hci20 hs22 (by omega)
    have hk25 : s22 (175) = s7 (175) := (hs22 (175) (by omega)).trans hk21
    refine ra_load rfl rfl rfl rfl ?_
    refine ra_getR rfl lk_7_46 (Nat.zero_le _) sh_0 rfl ?_
    refine ra_cV (sp_85 ) rfl (ct_85 rfl lk_7_80 (Or.inl rfl) sh_177 (Nat.le_of_ble_eq_true rfl)) (fun s26 hs26 => ?_)
    have hF27 := Fr_tr (lo := 0) (hi := 179) hF23 hs26 (by omega)
    have hci28 : CI s26 := CI_fr hci24 hs26 (by omega)
    have hk29 : s26 (175) = s7 (175) := (hs26 (175) (by omega)).trans hk25
    refine ra_load rfl rfl rfl rfl ?_
    refine ra_getR rfl lk_7_10 (Nat.zero_le _) sh_0 rfl ?_
    refine ra_cIp (sp_4 isD_1) rfl (ct_4 rfl lk_7_83 (Or.inl rfl) (sh_D isD_1) (Nat.le_of_ble_eq_true rfl)) (fun z31 hz31 => ?_)
    exact ra_ireturn rfl rfl ⟨⟨_, hz31, rfl⟩, ⟨hF27, hci28, by rw [ra_gk hk29]; assumption⟩⟩
  · refine ra_iconst rfl ?_
    exact ra_ireturn rfl rfl ⟨⟨_, (by first | omega | (unfold ra_in at *; omega)), rfl⟩, ⟨hF9, hci10, by assumption⟩⟩
theorem sp_115 {n : Nat} {f : Nat → Int32} {d : Nat} {x0 : Int} {σ : ra_V} (hx0 : ra_in x0) (hl : 0 ≤ ra_g σ (175) 1 ∧ ra_g σ (175) 1 ≤ 500) : ra_C (g_Gs n f) g_sh 0 (d + 1) 115 [.index (0), ra_I x0] σ (fun r s => r = .inl (some (ra_B (0 ≤ x0 ∧ x0 ≤ ra_g σ (175) 1))) ∧ Fr (175) (177) σ s ∧ ra_g s (175) 1 = (if 0 ≤ x0 ∧ x0 ≤ ra_g σ (175) 1 then x0 else ra_g σ (175) 1)) := by
  refine ra_enter (nn := 0) mt_115 rfl (Nat.le_of_ble_eq_true rfl) rfl (fun h => absurd h (by decide +kernel)) ?_
  refine ra_load rfl rfl rfl rfl ?_
  refine ra_iflt rfl rfl hx0 (fun h1 => ?_) (fun h1 => ?_)
  · refine ra_iconst rfl ?_
    exact ra_ireturn rfl (ra_okB (Or.inl rfl)) ⟨by unfold ra_B; rw [if_neg (by omega)], Fr_rf, by rw [if_neg (by omega)]⟩
  · refine ra_load rfl rfl rfl rfl ?_
    refine ra_load rfl rfl rfl rfl ?_
    refine ra_getR rfl lk_7_39 (Nat.zero_le _) sh_0 rfl ?_
    refine ra_getI rfl lk_7_61 (Nat.zero_le _) sh_175 rfl ?_
    refine ra_icle rfl rfl hx0 (ra_in_g _ _ _) (fun h2 => ?_) (fun h2 => ?_)
    · refine ra_load rfl rfl rfl rfl ?_
      refine ra_getR rfl lk_7_39 (Nat.zero_le _) sh_0 rfl ?_
      refine ra_load rfl rfl rfl rfl ?_
      refine ra_putI rfl lk_7_61 (Nat.zero_le _) sh_175 rfl rfl ?_
      refine ra_newU hx0 (fun s3 hs3 hp4 hp4o => ?_)
      have hp4_4 := hp4o 4 (by decide)
      have hF5 := Fr_tr (lo := 175) (hi := 177) Fr_rf hs3 (by omega)
      refine ra_iconst rfl ?_
      exact ra_ireturn rfl (ra_okB (Or.inr rfl)) ⟨by unfold ra_B; rw [if_pos (by omega)], hF5, by rw [if_pos (by omega)]; assumption⟩
    · refine ra_iconst rfl ?_
      exact ra_ireturn rfl (ra_okB (Or.inl rfl)) ⟨by unfold ra_B; rw [if_neg (by omega)], Fr_rf, by rw [if_neg (by omega)]⟩
theorem sp_114 {n : Nat} {f : Nat → Int32} {d : Nat} {x0 : Int} {x1 : Int} {x2 : Int} {x3 : Int} {x4 : Int} {σ : ra_V} (hx0 : ra_in x0) (hx1 : ra_in x1) (hx2 : ra_in x2) (hx3 : ra_in x3) (hx4 : ra_in x4) (hl : 0 ≤ ra_g σ (175) 1 ∧ ra_g σ (175) 1 ≤ 500) : ra_C (g_Gs n f) g_sh 0 (d + 2) 114 [.index (0), ra_I x0, ra_I x1, ra_I x2, ra_I x3, ra_I x4] σ (fun r s => r = .inl (some (ra_I (if ra_g σ (175) 1 + 20 ≤ 500 then ra_g σ (175) 1 + 20 else -1))) ∧ Fr (175) (177) σ s ∧ ra_g s (175) 1 = (if ra_g σ (175) 1 + 20 ≤ 500 then ra_g σ (175) 1 + 20 else ra_g σ (175) 1)) := by
  refine ra_enter (nn := 0) mt_114 rfl (Nat.le_of_ble_eq_true rfl) rfl (fun h => absurd h (by decide +kernel)) ?_
  refine ra_load rfl rfl rfl rfl ?_
  refine ra_getR rfl lk_7_39 (Nat.zero_le _) sh_0 rfl ?_
  refine ra_bipush rfl (by decide) ?_
  refine ra_cTp (sp_97 (by first | omega | (unfold ra_in at *; omega)) (by first | assumption | rfl | omega)) rfl (ct_97 rfl lk_7_54 (Or.inl rfl) sh_175 (Nat.le_of_ble_eq_true rfl)) ?_
  refine ra_ifneB rfl rfl (fun h2 => ?_) (fun h2 => ?_)
  · refine ra_load rfl rfl rfl rfl ?_
    refine ra_getR rfl lk_7_39 (Nat.zero_le _) sh_0 rfl ?_
    refine ra_load rfl rfl rfl rfl ?_
    refine ra_cV (sp_98 hx0 (by first | assumption | rfl | omega)) rfl (ct_98 rfl lk_7_58 (Or.inl rfl) sh_175 (Nat.le_of_ble_eq_true rfl)) (fun s3 hs3 => ?_)
    obtain ⟨hf4, he5⟩ := hs3
    have hF6 := Fr_tr (lo := 175) (hi := 177) Fr_rf hf4 (by omega)
    refine ra_load rfl rfl rfl rfl ?_
    refine ra_getR rfl lk_7_39 (Nat.zero_le _) sh_0 rfl ?_
    refine ra_load rfl rfl rfl rfl ?_
    refine ra_cV (sp_98 hx1 (by first | assumption | rfl | omega)) rfl (ct_98 rfl lk_7_58 (Or.inl rfl) sh_175 (Nat.le_of_ble_eq_true rfl)) (fun s7 hs7 => ?_)
    obtain ⟨hf8, he9⟩ := hs7
    have hF10 := Fr_tr (lo := 175) (hi := 177) hF6 hf8 (by omega)
    refine ra_load rfl rfl rfl rfl ?_
    refine ra_getR rfl lk_7_39 (Nat.zero_le _) sh_0 rfl ?_
    refine ra_load rfl rfl rfl rfl ?_
    refine ra_cV (sp_98 hx2 (by first | assumption | rfl | omega)) rfl (ct_98 rfl lk_7_58 (Or.inl rfl) sh_175 (Nat.le_of_ble_eq_true rfl)) (fun s11 hs11 => ?_)
    obtain ⟨hf12, he13⟩ := hs11
    have hF14 := Fr_tr (lo := 175) (hi := 177) hF10 hf12 (by omega)
    refine ra_load rfl rfl rfl rfl ?_
    refine ra_getR rfl lk_7_39 (Nat.zero_le _) sh_0 rfl ?_
    refine ra_load rfl rfl rfl rfl ?_
    refine ra_cV (sp_98 hx3 (by first | assumption | rfl | omega)) rfl (ct_98 rfl lk_7_58 (Or.inl rfl) sh_175 (Nat.le_of_ble_eq_true rfl)) (fun s15 hs15 => ?_)
    obtain ⟨hf16, he17⟩ := hs15
    have hF18 := Fr_tr (lo := 175) (hi := 177) hF14 hf16 (by omega)
    refine ra_load rfl rfl rfl rfl ?_
    refine ra_getR rfl lk_7_39 (Nat.zero_le _) sh_0 rfl ?_
    refine ra_load rfl rfl rfl rfl ?_
    refine ra_cV (sp_98 hx4 (by first | assumption | rfl | omega)) rfl (ct_98 rfl lk_7_58 (Or.inl rfl) sh_175 (Nat.le_of_ble_eq_true rfl)) (fun s19 hs19 => ?_)
    obtain ⟨hf20, he21⟩ := hs19
    have hF22 := Fr_tr (lo := 175) (hi := 177) hF18 hf20 (by omega)
    refine ra_load rfl rfl rfl rfl ?_
    refine ra_getR rfl lk_7_39 (Nat.zero_le _) sh_0 rfl ?_
    refine ra_getI rfl lk_7_61 (Nat.zero_le _) sh_175 rfl ?_
    exact ra_ireturn rfl rfl ⟨by rw [if_pos (by omega)]; exact congrArg (fun z => Sum.inl (some (ra_I z))) (by omega), hF22, by rw [if_pos (by omega)]; omega⟩
  · refine ra_iconst rfl ?_
    exact ra_ireturn rfl rfl ⟨by rw [if_neg (by omega)], Fr_rf, by rw [if_neg (by omega)]⟩
theorem sp_128 {n : Nat} {f : Nat → Int32} {d : Nat}  {σ : ra_V}  : ra_C (g_Gs n f) g_sh 0 (d + 2) 128 [.index (0)] σ (fun r s => (rF 4) r ∧ s = σ) := by
  refine ra_enter (nn := 1) mt_128 rfl (Nat.le_of_ble_eq_true rfl) rfl (fun h => absurd h (by decide +kernel)) ?_
  refine ra_load rfl rfl rfl rfl ?_
  refine ra_getR rfl lk_7_10 (Nat.zero_le _) sh_0 rfl ?_
  refine ra_cIp (sp_9 isD_1) rfl (ct_9 rfl lk_7_197 (Or.inl rfl) (sh_D isD_1) (Nat.le_of_ble_eq_true rfl)) (fun z2 hz2 => ?_)
  refine ra_load rfl rfl rfl rfl ?_
  refine ra_getR rfl lk_7_10 (Nat.zero_le _) sh_0 rfl ?_
  refine ra_getI rfl lk_7_94 (Nat.zero_le _) (sh_D isD_1) rfl ?_
  refine ra_gen (fun z3 hz3 => ?_)
  refine ra_isub rfl ?_
  refine ra_gen (fun z4 hz4 => ?_)
  refine ra_store (L' := [_, _]) rfl rfl rfl (Nat.le_of_ble_eq_true rfl) rfl ?_
  refine ra_load rfl rfl rfl rfl ?_
  refine ra_iconst rfl ?_
  refine ra_icge rfl rfl hz4 (by first | omega | (unfold ra_in at *; omega)) (fun h5 => ?_) (fun h5 => ?_)
  · refine ra_load rfl rfl rfl rfl ?_
    refine ra_getR rfl lk_7_10 (Nat.zero_le _) sh_0 rfl ?_
    refine ra_cIp (sp_5 isD_1) rfl (ct_5 rfl lk_7_200 (Or.inl rfl) (sh_D isD_1) (Nat.le_of_ble_eq_true rfl)) (fun z7 hz7 => ?_)
    refine ra_i2d rfl ?_
    refine ra_load rfl rfl rfl rfl ?_
    refine ra_i2d rfl ?_
    refine ra_ddiv rfl (ra_dn hz4 (by first | omega | (unfold ra_in at *; omega))) ?_
    exact ra_dreturn rfl rfl ⟨⟨_, rfl, rfl⟩, rfl⟩
  · refine ra_dconst0 rfl ?_
    refine ra_goto rfl rfl ?_
    exact ra_dreturn rfl rfl ⟨⟨_, rfl, rfl⟩, rfl⟩
theorem sp_137 {n : Nat} {f : Nat → Int32} {d : Nat}  {σ : ra_V}  : ra_C (g_Gs n f) g_sh 0 (d + 7) 137 [.index (0)] σ (fun r s => (rF 5) r ∧ Fr (172) (175) σ s) := by
  refine ra_enter (nn := 2) mt_137 rfl (Nat.le_of_ble_eq_true rfl) rfl (fun h => absurd h (by decide +kernel)) ?_
  refine ra_load rfl rfl rfl rfl ?_
  refine ra_cR (sp_175 ) rfl (ct_175 rfl lk_7_106 (Or.inl rfl) sh_0 (Nat.le_of_ble_eq_true rfl)) (fun s1 hs1 => ?_)
  have hF2 := Fr_tr (lo := 172) (hi := 175) Fr_rf hs1 (by omega)
  refine ra_store (L' := [_, _, _]) rfl rfl rfl (Nat.le_of_ble_eq_true rfl) rfl ?_
  refine ra_load rfl rfl rfl rfl ?_
  refine ra_cIp (sp_54 ) rfl (ct_54 rfl lk_7_110 (Or.inl rfl) sh_172 (Nat.le_of_ble_eq_true rfl)) (fun z4 hz4 => ?_)
  refine ra_store (L' := [_, _, _]) rfl rfl rfl (Nat.le_of_ble_eq_true rfl) rfl ?_
  refine ra_load rfl rfl rfl rfl ?_
  refine ra_iconst rfl ?_
  refine ra_icge rfl rfl hz4 (by first | omega | (unfold ra_in at *; omega)) (fun h5 => ?_) (fun h5 => ?_)
  · refine ra_fconst1 rfl ?_
    refine ra_load rfl rfl rfl rfl ?_
    refine ra_cIp (sp_56 ) rfl (ct_56 rfl lk_7_232 (Or.inl rfl) sh_172 (Nat.le_of_ble_eq_true rfl)) (fun z7 hz7 => ?_)
    refine ra_i2f rfl ?_
    refine ra_load rfl rfl rfl rfl ?_
    refine ra_i2f rfl ?_
    refine ra_fdiv rfl (ra_fn hz4 (by first | omega | (unfold ra_in at *; omega))) ?_
    refine ra_fsub rfl (ra_sn hz4 (by first | omega | (unfold ra_in at *; omega))) ?_
    exact ra_freturn rfl rfl ⟨⟨_, rfl, rfl⟩, hF2⟩
  · refine ra_fconst0 rfl ?_
    refine ra_goto rfl rfl ?_
    exact ra_freturn rfl rfl ⟨⟨_, rfl, rfl⟩, hF2⟩
end CW
