/-! T5: the class's gaps (printed by wip/gen/c8.py) -/
section
variable {τ : ra_V} {nh : Int} {R : Nat → ra_V}
theorem s5_82 {n : Nat} {f : Nat → Int32} {d : Nat} {D : Nat} {x0 : Int} {σ : ra_V} (hD : isD D) (hx0 : ra_in x0) (hT : x5CT τ σ D) (hW : x5W2 τ) : ra_C (g_Gs n f) g_sh 0 (d + 3) 82 [.index (D + 3), ra_I x0] σ (fun r9 s => (∃ z, ra_in z ∧ (x5EOB τ x0 z) ∧ r9 = .inl (some (ra_I z))) ∧ s = σ) := by
  refine ra_enter (nn := 0) mt_82 rfl (Nat.le_of_ble_eq_true rfl) rfl (fun h => absurd h (by decide +kernel)) ?_
  have hon := x5CT_on hT
  refine ra_load rfl rfl rfl rfl ?_
  refine ra_cQPp (s5_67 hD (by first | assumption | rfl | omega)) rfl (ct_67 rfl lk_3_65 (Or.inl rfl) (sh_D3 hD) (Nat.le_of_ble_eq_true rfl)) (fun z2 hz2 hz2p => ?_)
  refine ra_ifeq rfl rfl (ra_in01 hz2) (fun h3 => ?_) (fun h3 => ?_)
  · refine ra_load rfl rfl rfl rfl ?_
    refine ra_load rfl rfl rfl rfl ?_
    refine ra_i2l rfl hx0 ?_
    refine ra_lconst1 rfl ?_
    refine ra_cQPp (s5_81 hD hx0 (by first | omega | (unfold ra_in at *; omega)) (by first | assumption | rfl | omega) (by first | assumption | rfl | omega) (by omega)) rfl (ct_81 rfl lk_3_84 (Or.inl rfl) (sh_D3 hD) (Nat.le_of_ble_eq_true rfl)) (fun z5 hz5 hz5p => ?_)
    refine ra_ifeq rfl rfl (ra_in01 hz5) (fun h6 => ?_) (fun h6 => ?_)
    · refine ra_load rfl rfl rfl rfl ?_
      exact ra_ireturn rfl rfl ⟨⟨_, hx0, (x5eob_n (fun q9 => absurd (hz5p.mpr ⟨q9.1, by omega, Or.inl ⟨by omega, by omega⟩⟩) (by omega)) (fun q9 => absurd (hz5p.mpr ⟨q9.1, by omega, Or.inr ⟨q9.2.1, by omega, by omega⟩⟩) (by omega)) rfl), rfl⟩, rfl⟩
    · have hkb := hz5p.mp (by omega)
      have hmon : ra_g τ 180 16 ≠ -1 := hkb.1
      have hm := x5CT_m hT hmon
      have hmf := MV_f hW.1 hmon
      unfold MF at hmf
      have hs20 : ra_g τ 180 20 ≠ -1 := by have q9 := hkb.2.2; have q8 := hz2p; omega
      refine ra_load rfl rfl rfl rfl ?_
      refine ra_getI rfl lk_3_15 (Nat.zero_le _) (sh_D3 hD) rfl ?_
      rw [show (ra_g σ (D + 3) 6) = ra_g τ 180 20 from hm.2.2.2.2.2.1]
      have hr7 : ra_in (ra_g τ 180 20) := (ra_in_g _ _ _)
      refine ra_load rfl rfl rfl rfl ?_
      refine ra_cTp (s5_80 hD (by first | assumption | rfl | omega) (by first | assumption | rfl | omega) (by first | assumption | rfl | omega) (by first | assumption | rfl | omega)) rfl (ct_80 rfl lk_3_81 (Or.inl rfl) (sh_D3 hD) (Nat.le_of_ble_eq_true rfl)) ?_
      have hr9 : ra_in (min (ra_g τ 180 19) (msz τ)) := (x5min_in (ra_in_g _ _ _) (ra_in_wq _ _ _))
      refine ra_iadd rfl ?_
      refine ra_goto rfl rfl ?_
      exact ra_ireturn rfl rfl ⟨⟨_, (by first | omega | (unfold ra_in at *; omega)), (by have q9 := hkb; clear hkb; unfold x5BSY at q9; exact x5eob_9 (by omega) (by omega)), rfl⟩, rfl⟩
  · have hmon : ra_g τ 180 16 ≠ -1 := hz2p.mp (by omega)
    have hm := x5CT_m hT hmon
    have hmf := MV_f hW.1 hmon
    unfold MF at hmf
    refine ra_load rfl rfl rfl rfl ?_
    refine ra_getI rfl lk_3_24 (Nat.zero_le _) (sh_D3 hD) rfl ?_
    rw [show (ra_g σ (D + 3) 3) = ra_g τ 180 18 from hm.2.2.1]
    have hr10 : ra_in (ra_g τ 180 18) := (ra_in_g _ _ _)
    refine ra_i2l rfl hr10 ?_
    refine ra_load rfl rfl rfl rfl ?_
    refine ra_getI rfl lk_3_18 (Nat.zero_le _) (sh_D3 hD) rfl ?_
    rw [show (ra_g σ (D + 3) 1) = msz τ from hm.1]
    have hr11 : ra_in (msz τ) := (ra_in_wq _ _ _)
    refine ra_i2l rfl hr11 ?_
    refine ra_load rfl rfl rfl rfl ?_
    refine ra_i2l rfl hx0 ?_
    refine ra_lconst1 rfl ?_
    refine ra_cTp (s5_185 hr10 hr11 hx0 (by first | omega | (unfold ra_in at *; omega))) rfl (ct_185 rfl lk_3_77 (Or.inr ⟨rfl, rfl⟩) (Nat.le_of_ble_eq_true rfl)) ?_
    refine ra_ifeqB rfl rfl (fun h13 => ?_) (fun h13 => ?_)
    · refine ra_load rfl rfl rfl rfl ?_
      refine ra_load rfl rfl rfl rfl ?_
      refine ra_i2l rfl hx0 ?_
      refine ra_lconst1 rfl ?_
      refine ra_cQPp (s5_81 hD hx0 (by first | omega | (unfold ra_in at *; omega)) (by first | assumption | rfl | omega) (by first | assumption | rfl | omega) (by omega)) rfl (ct_81 rfl lk_3_84 (Or.inl rfl) (sh_D3 hD) (Nat.le_of_ble_eq_true rfl)) (fun z15 hz15 hz15p => ?_)
      refine ra_ifeq rfl rfl (ra_in01 hz15) (fun h16 => ?_) (fun h16 => ?_)
      · refine ra_load rfl rfl rfl rfl ?_
        exact ra_ireturn rfl rfl ⟨⟨_, hx0, (x5eob_n (fun q9 => absurd (hz15p.mpr ⟨q9.1, by omega, Or.inl ⟨by omega, by omega⟩⟩) (by omega)) (fun q9 => absurd (hz15p.mpr ⟨q9.1, by omega, Or.inr ⟨q9.2.1, by omega, by omega⟩⟩) (by omega)) rfl), rfl⟩, rfl⟩
      · have hkb := hz15p.mp (by omega)
        have hmon : ra_g τ 180 16 ≠ -1 := hkb.1
        have hm := x5CT_m hT hmon
        have hmf := MV_f hW.1 hmon
        unfold MF at hmf
        have hs20 : ra_g τ 180 20 ≠ -1 := by have q9 := hkb.2.2; have q8 := hz2p; omega
        refine ra_load rfl rfl rfl rfl ?_
        refine ra_getI rfl lk_3_15 (Nat.zero_le _) (sh_D3 hD) rfl ?_
        rw [show (ra_g σ (D + 3) 6) = ra_g τ 180 20 from hm.2.2.2.2.2.1]
        have hr17 : ra_in (ra_g τ 180 20) := (ra_in_g _ _ _)
        refine ra_load rfl rfl rfl rfl ?_
        refine ra_cTp (s5_80 hD (by first | assumption | rfl | omega) (by first | assumption | rfl | omega) (by first | assumption | rfl | omega) (by first | assumption | rfl | omega)) rfl (ct_80 rfl lk_3_81 (Or.inl rfl) (sh_D3 hD) (Nat.le_of_ble_eq_true rfl)) ?_
        have hr19 : ra_in (min (ra_g τ 180 19) (msz τ)) := (x5min_in (ra_in_g _ _ _) (ra_in_wq _ _ _))
        refine ra_iadd rfl ?_
        refine ra_goto rfl rfl ?_
        exact ra_ireturn rfl rfl ⟨⟨_, (by first | omega | (unfold ra_in at *; omega)), (by have q9 := hkb; clear hkb; unfold x5BSY at q9; exact x5eob_9 (by omega) (by omega)), rfl⟩, rfl⟩
    · refine ra_load rfl rfl rfl rfl ?_
      refine ra_getI rfl lk_3_24 (Nat.zero_le _) (sh_D3 hD) rfl ?_
      rw [show (ra_g σ (D + 3) 3) = ra_g τ 180 18 from hm.2.2.1]
      have hr20 : ra_in (ra_g τ 180 18) := (ra_in_g _ _ _)
      refine ra_load rfl rfl rfl rfl ?_
      refine ra_getI rfl lk_3_18 (Nat.zero_le _) (sh_D3 hD) rfl ?_
      rw [show (ra_g σ (D + 3) 1) = msz τ from hm.1]
      have hr21 : ra_in (msz τ) := (ra_in_wq _ _ _)
      refine ra_iadd rfl ?_
      exact ra_ireturn rfl rfl ⟨⟨_, (by first | omega | (unfold ra_in at *; omega)), (x5eob_8 (by omega) rfl), rfl⟩, rfl⟩
theorem s5_83 {n : Nat} {f : Nat → Int32} {d : Nat} {D : Nat} {x0 : Int} {x1 : Int} {σ : ra_V} (hD : isD D) (hx0 : ra_in x0) (hx1 : ra_in x1) (hT : x5CT τ σ D) (hW : x5W2 τ) (h0 : 0 ≤ x0) : ra_C (g_Gs n f) g_sh 0 (d + 2) 83 [.index (D + 3), ra_I x0, ra_I x1] σ (fun r9 s => (∃ z, ra_in z ∧ (x5NXB τ x0 x1 z) ∧ r9 = .inl (some (ra_I z))) ∧ s = σ) := by
  refine ra_enter (nn := 1) mt_83 rfl (Nat.le_of_ble_eq_true rfl) rfl (fun h => absurd h (by decide +kernel)) ?_
  have hon := x5CT_on hT
  refine ra_load rfl rfl rfl rfl ?_
  refine ra_store (L' := [_, _, _, _]) rfl rfl rfl (Nat.le_of_ble_eq_true rfl) rfl ?_
  refine ra_load rfl rfl rfl rfl ?_
  refine ra_cQPp (s5_67 hD (by first | assumption | rfl | omega)) rfl (ct_67 rfl lk_3_65 (Or.inl rfl) (sh_D3 hD) (Nat.le_of_ble_eq_true rfl)) (fun z2 hz2 hz2p => ?_)
  refine ra_ifeq rfl rfl (ra_in01 hz2) (fun h3 => ?_) (fun h3 => ?_)
  · refine ra_load rfl rfl rfl rfl ?_
    refine ra_cQPp (s5_67 hD (by first | assumption | rfl | omega)) rfl (ct_67 rfl lk_3_65 (Or.inl rfl) (sh_D3 hD) (Nat.le_of_ble_eq_true rfl)) (fun z5 hz5 hz5p => ?_)
    refine ra_ifeq rfl rfl (ra_in01 hz5) (fun h6 => ?_) (fun h6 => ?_)
    · refine ra_load rfl rfl rfl rfl ?_
      exact ra_ireturn rfl rfl ⟨⟨_, hx1, (by first | exact x5nxb_i (by omega) (by omega) (by omega) (by omega)), rfl⟩, rfl⟩
    · have hmon2 : ra_g τ 180 16 ≠ -1 := hz5p.mp (by omega)
      have hm := x5CT_m hT hmon2
      have hmf := MV_f hW.1 hmon2
      unfold MF at hmf
      refine ra_load rfl rfl rfl rfl ?_
      refine ra_getI rfl lk_3_15 (Nat.zero_le _) (sh_D3 hD) rfl ?_
      rw [show (ra_g σ (D + 3) 6) = ra_g τ 180 20 from hm.2.2.2.2.2.1]
      have hr7 : ra_in (ra_g τ 180 20) := (ra_in_g _ _ _)
      refine ra_load rfl rfl rfl rfl ?_
      refine ra_icle rfl rfl hr7 hx0 (fun h8 => ?_) (fun h8 => ?_)
      · refine ra_load rfl rfl rfl rfl ?_
        exact ra_ireturn rfl rfl ⟨⟨_, hx1, (by first | exact x5nxb_i (by omega) (by omega) (by omega) (by omega)), rfl⟩, rfl⟩
      · refine ra_load rfl rfl rfl rfl ?_
        refine ra_getI rfl lk_3_15 (Nat.zero_le _) (sh_D3 hD) rfl ?_
        rw [show (ra_g σ (D + 3) 6) = ra_g τ 180 20 from hm.2.2.2.2.2.1]
        have hr9 : ra_in (ra_g τ 180 20) := (ra_in_g _ _ _)
        refine ra_load rfl rfl rfl rfl ?_
        refine ra_icge rfl rfl hr9 hx1 (fun h10 => ?_) (fun h10 => ?_)
        · refine ra_load rfl rfl rfl rfl ?_
          exact ra_ireturn rfl rfl ⟨⟨_, hx1, (by first | exact x5nxb_i (by omega) (by omega) (by omega) (by omega)), rfl⟩, rfl⟩
        · refine ra_load rfl rfl rfl rfl ?_
          refine ra_getI rfl lk_3_15 (Nat.zero_le _) (sh_D3 hD) rfl ?_
          rw [show (ra_g σ (D + 3) 6) = ra_g τ 180 20 from hm.2.2.2.2.2.1]
          have hr11 : ra_in (ra_g τ 180 20) := (ra_in_g _ _ _)
          refine ra_store (L' := [_, _, _, _]) rfl rfl rfl (Nat.le_of_ble_eq_true rfl) rfl ?_
          refine ra_load rfl rfl rfl rfl ?_
          exact ra_ireturn rfl rfl ⟨⟨_, hr11, (by first | exact x5nxb_i (by omega) (by omega) (by omega) (by omega)), rfl⟩, rfl⟩
  · have hmon : ra_g τ 180 16 ≠ -1 := hz2p.mp (by omega)
    have hm := x5CT_m hT hmon
    have hmf := MV_f hW.1 hmon
    unfold MF at hmf
    refine ra_load rfl rfl rfl rfl ?_
    refine ra_getI rfl lk_3_24 (Nat.zero_le _) (sh_D3 hD) rfl ?_
    rw [show (ra_g σ (D + 3) 3) = ra_g τ 180 18 from hm.2.2.1]
    have hr12 : ra_in (ra_g τ 180 18) := (ra_in_g _ _ _)
    refine ra_load rfl rfl rfl rfl ?_
    refine ra_icle rfl rfl hr12 hx0 (fun h13 => ?_) (fun h13 => ?_)
    · refine ra_load rfl rfl rfl rfl ?_
      refine ra_cQPp (s5_67 hD (by first | assumption | rfl | omega)) rfl (ct_67 rfl lk_3_65 (Or.inl rfl) (sh_D3 hD) (Nat.le_of_ble_eq_true rfl)) (fun z15 hz15 hz15p => ?_)
      refine ra_ifeq rfl rfl (ra_in01 hz15) (fun h16 => ?_) (fun h16 => ?_)
      · refine ra_load rfl rfl rfl rfl ?_
        exact ra_ireturn rfl rfl ⟨⟨_, hx1, (by first | exact x5nxb_i (by omega) (by omega) (by omega) (by omega)), rfl⟩, rfl⟩
      · have hmon2 : ra_g τ 180 16 ≠ -1 := hz15p.mp (by omega)
        have hm := x5CT_m hT hmon2
        have hmf := MV_f hW.1 hmon2
        unfold MF at hmf
        refine ra_load rfl rfl rfl rfl ?_
        refine ra_getI rfl lk_3_15 (Nat.zero_le _) (sh_D3 hD) rfl ?_
        rw [show (ra_g σ (D + 3) 6) = ra_g τ 180 20 from hm.2.2.2.2.2.1]
        have hr17 : ra_in (ra_g τ 180 20) := (ra_in_g _ _ _)
        refine ra_load rfl rfl rfl rfl ?_
        refine ra_icle rfl rfl hr17 hx0 (fun h18 => ?_) (fun h18 => ?_)
        · refine ra_load rfl rfl rfl rfl ?_
          exact ra_ireturn rfl rfl ⟨⟨_, hx1, (by first | exact x5nxb_i (by omega) (by omega) (by omega) (by omega)), rfl⟩, rfl⟩
        · refine ra_load rfl rfl rfl rfl ?_
          refine ra_getI rfl lk_3_15 (Nat.zero_le _) (sh_D3 hD) rfl ?_
          rw [show (ra_g σ (D + 3) 6) = ra_g τ 180 20 from hm.2.2.2.2.2.1]
          have hr19 : ra_in (ra_g τ 180 20) := (ra_in_g _ _ _)
          refine ra_load rfl rfl rfl rfl ?_
          refine ra_icge rfl rfl hr19 hx1 (fun h20 => ?_) (fun h20 => ?_)
          · refine ra_load rfl rfl rfl rfl ?_
            exact ra_ireturn rfl rfl ⟨⟨_, hx1, (by first | exact x5nxb_i (by omega) (by omega) (by omega) (by omega)), rfl⟩, rfl⟩
          · refine ra_load rfl rfl rfl rfl ?_
            refine ra_getI rfl lk_3_15 (Nat.zero_le _) (sh_D3 hD) rfl ?_
            rw [show (ra_g σ (D + 3) 6) = ra_g τ 180 20 from hm.2.2.2.2.2.1]
            have hr21 : ra_in (ra_g τ 180 20) := (ra_in_g _ _ _)
            refine ra_store (L' := [_, _, _, _]) rfl rfl rfl (Nat.le_of_ble_eq_true rfl) rfl ?_
            refine ra_load rfl rfl rfl rfl ?_
            exact ra_ireturn rfl rfl ⟨⟨_, hr21, (by first | exact x5nxb_i (by omega) (by omega) (by omega) (by omega)), rfl⟩, rfl⟩
    · refine ra_load rfl rfl rfl rfl ?_
      refine ra_getI rfl lk_3_24 (Nat.zero_le _) (sh_D3 hD) rfl ?_
      rw [show (ra_g σ (D + 3) 3) = ra_g τ 180 18 from hm.2.2.1]
      have hr22 : ra_in (ra_g τ 180 18) := (ra_in_g _ _ _)
      refine ra_load rfl rfl rfl rfl ?_
      refine ra_icge rfl rfl hr22 hx1 (fun h23 => ?_) (fun h23 => ?_)
      · refine ra_load rfl rfl rfl rfl ?_
        refine ra_cQPp (s5_67 hD (by first | assumption | rfl | omega)) rfl (ct_67 rfl lk_3_65 (Or.inl rfl) (sh_D3 hD) (Nat.le_of_ble_eq_true rfl)) (fun z25 hz25 hz25p => ?_)
        refine ra_ifeq rfl rfl (ra_in01 hz25) (fun h26 => ?_) (fun h26 => ?_)
        · refine ra_load rfl rfl rfl rfl ?_
          exact ra_ireturn rfl rfl ⟨⟨_, hx1, (by first | exact x5nxb_i (by omega) (by omega) (by omega) (by omega)), rfl⟩, rfl⟩
        · have hmon2 : ra_g τ 180 16 ≠ -1 := hz25p.mp (by omega)
          have hm := x5CT_m hT hmon2
          have hmf := MV_f hW.1 hmon2
          unfold MF at hmf
          refine ra_load rfl rfl rfl rfl ?_
          refine ra_getI rfl lk_3_15 (Nat.zero_le _) (sh_D3 hD) rfl ?_
          rw [show (ra_g σ (D + 3) 6) = ra_g τ 180 20 from hm.2.2.2.2.2.1]
          have hr27 : ra_in (ra_g τ 180 20) := (ra_in_g _ _ _)
          refine ra_load rfl rfl rfl rfl ?_
          refine ra_icle rfl rfl hr27 hx0 (fun h28 => ?_) (fun h28 => ?_)
          · refine ra_load rfl rfl rfl rfl ?_
            exact ra_ireturn rfl rfl ⟨⟨_, hx1, (by first | exact x5nxb_i (by omega) (by omega) (by omega) (by omega)), rfl⟩, rfl⟩
          · refine ra_load rfl rfl rfl rfl ?_
            refine ra_getI rfl lk_3_15 (Nat.zero_le _) (sh_D3 hD) rfl ?_
            rw [show (ra_g σ (D + 3) 6) = ra_g τ 180 20 from hm.2.2.2.2.2.1]
            have hr29 : ra_in (ra_g τ 180 20) := (ra_in_g _ _ _)
            refine ra_load rfl rfl rfl rfl ?_
            refine ra_icge rfl rfl hr29 hx1 (fun h30 => ?_) (fun h30 => ?_)
            · refine ra_load rfl rfl rfl rfl ?_
              exact ra_ireturn rfl rfl ⟨⟨_, hx1, (by first | exact x5nxb_i (by omega) (by omega) (by omega) (by omega)), rfl⟩, rfl⟩
            · refine ra_load rfl rfl rfl rfl ?_
              refine ra_getI rfl lk_3_15 (Nat.zero_le _) (sh_D3 hD) rfl ?_
              rw [show (ra_g σ (D + 3) 6) = ra_g τ 180 20 from hm.2.2.2.2.2.1]
              have hr31 : ra_in (ra_g τ 180 20) := (ra_in_g _ _ _)
              refine ra_store (L' := [_, _, _, _]) rfl rfl rfl (Nat.le_of_ble_eq_true rfl) rfl ?_
              refine ra_load rfl rfl rfl rfl ?_
              exact ra_ireturn rfl rfl ⟨⟨_, hr31, (by first | exact x5nxb_i (by omega) (by omega) (by omega) (by omega)), rfl⟩, rfl⟩
      · refine ra_load rfl rfl rfl rfl ?_
        refine ra_getI rfl lk_3_24 (Nat.zero_le _) (sh_D3 hD) rfl ?_
        rw [show (ra_g σ (D + 3) 3) = ra_g τ 180 18 from hm.2.2.1]
        have hr32 : ra_in (ra_g τ 180 18) := (ra_in_g _ _ _)
        refine ra_store (L' := [_, _, _, _]) rfl rfl rfl (Nat.le_of_ble_eq_true rfl) rfl ?_
        refine ra_load rfl rfl rfl rfl ?_
        refine ra_cQPp (s5_67 hD (by first | assumption | rfl | omega)) rfl (ct_67 rfl lk_3_65 (Or.inl rfl) (sh_D3 hD) (Nat.le_of_ble_eq_true rfl)) (fun z34 hz34 hz34p => ?_)
        refine ra_ifeq rfl rfl (ra_in01 hz34) (fun h35 => ?_) (fun h35 => ?_)
        · refine ra_load rfl rfl rfl rfl ?_
          exact ra_ireturn rfl rfl ⟨⟨_, hr32, (by first | exact x5nxb_i (by omega) (by omega) (by omega) (by omega)), rfl⟩, rfl⟩
        · have hmon2 : ra_g τ 180 16 ≠ -1 := hz34p.mp (by omega)
          have hm := x5CT_m hT hmon2
          have hmf := MV_f hW.1 hmon2
          unfold MF at hmf
          refine ra_load rfl rfl rfl rfl ?_
          refine ra_getI rfl lk_3_15 (Nat.zero_le _) (sh_D3 hD) rfl ?_
          rw [show (ra_g σ (D + 3) 6) = ra_g τ 180 20 from hm.2.2.2.2.2.1]
          have hr36 : ra_in (ra_g τ 180 20) := (ra_in_g _ _ _)
          refine ra_load rfl rfl rfl rfl ?_
          refine ra_icle rfl rfl hr36 hx0 (fun h37 => ?_) (fun h37 => ?_)
          · refine ra_load rfl rfl rfl rfl ?_
            exact ra_ireturn rfl rfl ⟨⟨_, hr32, (by first | exact x5nxb_i (by omega) (by omega) (by omega) (by omega)), rfl⟩, rfl⟩
          · refine ra_load rfl rfl rfl rfl ?_
            refine ra_getI rfl lk_3_15 (Nat.zero_le _) (sh_D3 hD) rfl ?_
            rw [show (ra_g σ (D + 3) 6) = ra_g τ 180 20 from hm.2.2.2.2.2.1]
            have hr38 : ra_in (ra_g τ 180 20) := (ra_in_g _ _ _)
            refine ra_load rfl rfl rfl rfl ?_
            refine ra_icge rfl rfl hr38 hr32 (fun h39 => ?_) (fun h39 => ?_)
            · refine ra_load rfl rfl rfl rfl ?_
              exact ra_ireturn rfl rfl ⟨⟨_, hr32, (by first | exact x5nxb_i (by omega) (by omega) (by omega) (by omega)), rfl⟩, rfl⟩
            · refine ra_load rfl rfl rfl rfl ?_
              refine ra_getI rfl lk_3_15 (Nat.zero_le _) (sh_D3 hD) rfl ?_
              rw [show (ra_g σ (D + 3) 6) = ra_g τ 180 20 from hm.2.2.2.2.2.1]
              have hr40 : ra_in (ra_g τ 180 20) := (ra_in_g _ _ _)
              refine ra_store (L' := [_, _, _, _]) rfl rfl rfl (Nat.le_of_ble_eq_true rfl) rfl ?_
              refine ra_load rfl rfl rfl rfl ?_
              exact ra_ireturn rfl rfl ⟨⟨_, hr40, (by first | exact x5nxb_i (by omega) (by omega) (by omega) (by omega)), rfl⟩, rfl⟩
theorem l5_14_11 {n : Nat} {f : Nat → Int32} {d : Nat} {D : Nat} {x0 : Int} {σ : ra_V} (hD : isD D) (hx0 : ra_in x0) (hT : x5CT τ σ D) (hW : x5W2 τ) : ∀ (nn : Nat) (v4 : Int) (hv4_0 : 0 ≤ v4) (hv4_1 : v4 ≤ 8) (hv4_2 : ∀ j : Nat, (j : Int) < v4 → ¬ x4MT σ D x0 1 j) (hm : ((8 - v4 : Int)).toNat < nn), ra_P (g_Gs n f) g_sh 0 (d + 3) g_m_X0_endOfTaken 11 [some (.index (D)), some (ra_I x0), some (.index (D + 2)), some (ra_I ((8 : Nat) : Int)), some (ra_I v4), none] [] σ (fun r9 s => (∃ z, ra_in z ∧ (x5EOT τ x0 z) ∧ r9 = .inl (some (ra_I z))) ∧ s = σ) := by
  intro nn
  induction nn with
  | zero => intro v4 hv4_0 hv4_1 hv4_2 hm; exact absurd hm (Nat.not_lt_zero _)
  | succ nn ih =>
    intro v4 hv4_0 hv4_1 hv4_2 hm
    refine ra_load rfl rfl rfl rfl ?_
    refine ra_load rfl rfl rfl rfl ?_
    refine ra_icge rfl rfl (by first | omega | (unfold ra_in at *; omega)) (by first | omega | (unfold ra_in at *; omega)) (fun h1 => ?_) (fun h1 => ?_)
    · refine ra_load rfl rfl rfl rfl ?_
      refine ra_getR rfl lk_0_24 (Nat.zero_le _) (sh_D hD) rfl ?_
      refine ra_load rfl rfl rfl rfl ?_
      refine ra_cIPp (s5_82 hD hx0 (by first | assumption | rfl | omega) (by first | assumption | rfl | omega)) rfl (ct_82 rfl lk_0_117 (Or.inl rfl) (sh_D3 hD) (Nat.le_of_ble_eq_true rfl)) (fun z3 hz3 hz3p => ?_)
      exact ra_ireturn rfl rfl ⟨⟨_, hz3, (x5eot_b hT (fun j hj => hv4_2 j (by omega)) hz3p), rfl⟩, rfl⟩
    · refine ra_load rfl rfl rfl rfl ?_
      refine ra_load rfl rfl rfl rfl ?_
      refine ra_aaload rfl (sh_D2 hD) rfl (by decide) (by first | omega | (unfold ra_in at *; omega)) (by first | omega | (unfold ra_in at *; omega)) (sh_pt (by first | omega | (unfold ra_in at *; omega)) (by first | omega | (unfold ra_in at *; omega))) rfl ?_
      have hi4 : v4.toNat < 8 := (by first | omega | (unfold ra_in at *; omega))
      refine ra_store (L' := [_, _, _, _, _, _]) rfl rfl rfl (Nat.le_of_ble_eq_true rfl) rfl ?_
      refine ra_load rfl rfl rfl rfl ?_
      refine ra_load rfl rfl rfl rfl ?_
      refine ra_i2l rfl hx0 ?_
      refine ra_lconst1 rfl ?_
      refine ra_cTp (s4_95 hD hi4 hx0 (by first | omega | (unfold ra_in at *; omega)) (x5CT_bd hT hW.1 v4.toNat (by omega))) rfl (ct_95 rfl lk_0_106 (Or.inl rfl) (sh_P hD hi4) (Nat.le_of_ble_eq_true rfl)) ?_
      refine ra_ifeqB rfl rfl (fun h6 => ?_) (fun h6 => ?_)
      · refine ra_iinc (L' := [_, _, _, _, _, _]) rfl rfl (Nat.le_of_ble_eq_true rfl) rfl ?_
        refine ra_goto rfl rfl ?_
        exact ra_weak (by repeat' constructor) (ih (v4 + 1) (by first | omega | (unfold ra_in at *; omega)) (by first | omega | (unfold ra_in at *; omega)) (fun j hj => if e : j = v4.toNat then (by rw [e]; first | assumption | (show ¬ x4MT σ D x0 1 v4.toNat; assumption)) else hv4_2 j (by omega)) (by first | omega | (unfold ra_in at *; omega)))
      · have hmt := (x5mt_q hT (q := v4.toNat) (by omega)).mp (show x4MT σ D x0 1 v4.toNat by assumption)
        have hpw := WF_p hW.1 (p := ((v4.toNat : Nat) : Int)) (by omega) (by omega) hmt.1
        have hwa := WF_a hW.1
        unfold WFa at hwa
        refine ra_load rfl rfl rfl rfl ?_
        refine ra_cTp (s5_93 hD hi4 (by first | assumption | rfl | omega) (by first | assumption | rfl | omega) hmt.1) rfl (ct_93 rfl lk_0_114 (Or.inl rfl) (sh_P hD hi4) (Nat.le_of_ble_eq_true rfl)) ?_
        have hr8 : ra_in (wq τ v4.toNat 1 + wq τ v4.toNat 2) := (by unfold ra_in; omega)
        exact ra_ireturn rfl rfl ⟨⟨_, hr8, (x5eot_p (q := v4.toNat) (by omega) hmt.1 ⟨by omega, by omega⟩ rfl), rfl⟩, rfl⟩
theorem s5_14 {n : Nat} {f : Nat → Int32} {d : Nat} {D : Nat} {x0 : Int} {σ : ra_V} (hD : isD D) (hx0 : ra_in x0) (hT : x5CT τ σ D) (hW : x5W2 τ) : ra_C (g_Gs n f) g_sh 0 (d + 4) 14 [.index (D), ra_I x0] σ (fun r9 s => (∃ z, ra_in z ∧ (x5EOT τ x0 z) ∧ r9 = .inl (some (ra_I z))) ∧ s = σ) := by
  refine ra_enter (nn := 4) mt_14 rfl (Nat.le_of_ble_eq_true rfl) rfl (fun h => absurd h (by decide +kernel)) ?_
  refine ra_load rfl rfl rfl rfl ?_
  refine ra_getR rfl lk_0_17 (Nat.zero_le _) (sh_D hD) rfl ?_
  refine ra_store (L' := [_, _, _, _, _, _]) rfl rfl rfl (Nat.le_of_ble_eq_true rfl) rfl ?_
  refine ra_load rfl rfl rfl rfl ?_
  refine ra_alen rfl (sh_D2 hD) rfl ?_
  refine ra_store (L' := [_, _, _, _, _, _]) rfl rfl rfl (Nat.le_of_ble_eq_true rfl) rfl ?_
  refine ra_iconst rfl ?_
  refine ra_store (L' := [_, _, _, _, _, _]) rfl rfl rfl (Nat.le_of_ble_eq_true rfl) rfl ?_
  exact ra_weak (by repeat' constructor) (l5_14_11 hD hx0 hT hW _ (0) (by first | omega | (unfold ra_in at *; omega)) (by first | omega | (unfold ra_in at *; omega)) (fun j hj => by omega) (Nat.lt_succ_self _))
theorem s5_15 {n : Nat} {f : Nat → Int32} {d : Nat} {D : Nat} {x0 : Int} {σ : ra_V} (hD : isD D) (hx0 : ra_in x0) (hT : x5CT τ σ D) (hW : x5W2 τ) (h0 : 0 ≤ x0) : ra_C (g_Gs n f) g_sh 0 (d + 3) 15 [.index (D), ra_I x0] σ (fun r9 s => (∃ z, ra_in z ∧ (x5NXT τ x0 z) ∧ r9 = .inl (some (ra_I z))) ∧ s = σ) := by
  refine ra_enter (nn := 2) mt_15 rfl (Nat.le_of_ble_eq_true rfl) rfl (fun h => absurd h (by decide +kernel)) ?_
  refine ra_load rfl rfl rfl rfl ?_
  refine ra_getR rfl lk_0_24 (Nat.zero_le _) (sh_D hD) rfl ?_
  refine ra_load rfl rfl rfl rfl ?_
  refine ra_load rfl rfl rfl rfl ?_
  refine ra_cTp (s5_9 hD (by first | assumption | rfl | omega) (by first | assumption | rfl | omega)) rfl (ct_9 rfl lk_0_102 (Or.inl rfl) (sh_D hD) (Nat.le_of_ble_eq_true rfl)) ?_
  have hr2 : ra_in (ra_g τ 180 0 - ra_g τ 180 2) := (x5ue_in (by first | assumption | rfl | omega))
  refine ra_cIPp (s5_83 hD hx0 hr2 (by first | assumption | rfl | omega) (by first | assumption | rfl | omega) (by first | assumption | rfl | omega)) rfl (ct_83 rfl lk_0_121 (Or.inl rfl) (sh_D3 hD) (Nat.le_of_ble_eq_true rfl)) (fun z4 hz4 hz4p => ?_)
  refine ra_store (L' := [_, _, _, _]) rfl rfl rfl (Nat.le_of_ble_eq_true rfl) rfl ?_
  refine ra_load rfl rfl rfl rfl ?_
  refine ra_load rfl rfl rfl rfl ?_
  refine x5cPCp (s5_6 hD hx0 (by first | assumption | rfl | omega) (by first | assumption | rfl | omega)) rfl (ct_6 rfl lk_0_125 (Or.inl rfl) (sh_D hD) (Nat.le_of_ble_eq_true rfl)) (fun hj6n => ?_) (fun j6 hj6 hj6b => ?_)
  · refine ra_store (L' := [_, _, _, _]) rfl rfl rfl (Nat.le_of_ble_eq_true rfl) rfl ?_
    refine ra_load rfl rfl rfl rfl ?_
    refine ra_nnullF rfl rfl ?_
    refine ra_load rfl rfl rfl rfl ?_
    refine ra_goto rfl rfl ?_
    exact ra_ireturn rfl rfl ⟨⟨_, hz4, (x5nxt_n hz4p hj6n), rfl⟩, rfl⟩
  · refine ra_store (L' := [_, _, _, _]) rfl rfl rfl (Nat.le_of_ble_eq_true rfl) rfl ?_
    refine ra_load rfl rfl rfl rfl ?_
    refine ra_nnullT rfl rfl ?_
    refine ra_load rfl rfl rfl rfl ?_
    have hqs : ra_g σ (D + 5 + j6) 1 = wq τ j6 1 := (x5CT_p hT hj6 (hj6b.1.resolve_left (by omega)).2.2.1).1
    refine ra_load rfl rfl rfl rfl ?_
    refine ra_getI rfl lk_0_85 (Nat.zero_le _) (sh_P hD hj6) rfl ?_
    have hr7 : ra_in (ra_g σ (D + 5 + j6) 1) := (ra_in_g _ _ _)
    refine ra_min rfl lk_0_129 hz4 hr7 (Nat.le_of_ble_eq_true rfl) ?_
    exact ra_ireturn rfl rfl ⟨⟨_, (by first | omega | (unfold ra_in at *; omega)), (x5nxt_y (q := j6) hz4p hW.1 hj6 hj6b (by rw [← hqs])), rfl⟩, rfl⟩
end
