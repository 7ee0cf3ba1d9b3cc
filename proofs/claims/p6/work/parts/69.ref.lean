/-! the reference: what its methods do (printed by wip/gen/ref.py) -/
section RB
theorem lp_222_13 {n : Nat} {f : Nat → Int32} {d : Nat} {x0 : Int} {x1 : Int} {x2 : Int} {σ : ra_V} (hx0 : ra_in x0) (hx1 : ra_in x1) (hx2 : ra_in x2) (hw : WFa σ) (hp : -1 ≤ x0 ∧ x0 < 8 ∧ 1 ≤ x2) : ∀ (nn : Nat) (v4 : Int) (v5 : Int) (hv4_0 : SCI σ x0 x1 x2 v4 v5) (hv5_0 : -1 ≤ v5) (hv5_1 : v5 < ra_g σ 180 0) (hm : ((v5 + 1 : Int)).toNat < nn), ra_P (g_Gs n f) g_sh 0 (d + 2) g_m_X8_scratchFor 13 [some (.index (179)), some (ra_I x0), some (ra_I x1), some (ra_I x2), some (ra_I v4), some (ra_I v5), none] [] σ (fun r s => (∃ z, ra_in z ∧ ((z = -1 ∨ (0 ≤ z ∧ z + x2 ≤ 600)) ∧ (z = -1 → ¬ SCE σ x0 x1 x2) ∧ (z ≠ -1 → SCE σ x0 x1 x2)) ∧ r = .inl (some (ra_I z))) ∧ s = σ) := by
  intro nn
  induction nn with
  | zero => intro v4 v5 hv4_0 hv5_0 hv5_1 hm; exact absurd hm (Nat.not_lt_zero _)
  | succ nn ih =>
    intro v4 v5 hv4_0 hv5_0 hv5_1 hm
    have hw0 := hw
    unfold WFa at hw0
    have hp0 := hv4_0.1
    have hp1 := hv4_0
    refine ra_load rfl rfl rfl rfl ?_
    refine ra_iflt rfl rfl (by first | omega | (unfold ra_in at *; omega)) (fun h2 => ?_) (fun h2 => ?_)
    · refine ra_iconst rfl ?_
      exact ra_ireturn rfl rfl ⟨⟨_, (by first | omega | (unfold ra_in at *; omega)), (⟨Or.inl rfl, fun _ => sci_z (by obtain rfl : v5 = -1 := (by omega); exact hv4_0), fun q => absurd rfl q⟩), rfl⟩, rfl⟩
    · refine ra_load rfl rfl rfl rfl ?_
      refine ra_load rfl rfl rfl rfl ?_
      refine ra_i2l rfl (by first | omega | (unfold ra_in at *; omega)) ?_
      refine ra_lconst1 rfl ?_
      refine ra_cQPp (sp_210 (by first | omega | (unfold ra_in at *; omega)) (by first | omega | (unfold ra_in at *; omega)) hw) rfl (ct_210 rfl lk_8_103 (Or.inl rfl) sh_179 (Nat.le_of_ble_eq_true rfl)) (fun z4 hz4 hz4p => ?_)
      refine ra_ifeq rfl rfl (ra_in01 hz4) (fun h5 => ?_) (fun h5 => ?_)
      · refine ra_iconst rfl ?_
        refine ra_store (L' := [_, _, _, _, _, _, _]) rfl rfl rfl (Nat.le_of_ble_eq_true rfl) rfl ?_
        refine ra_load rfl rfl rfl rfl ?_
        refine ra_ifeq rfl rfl (by first | omega | (unfold ra_in at *; omega)) (fun h6 => ?_) (fun h6 => ?_)
        · refine ra_iconst rfl ?_
          refine ra_store (L' := [_, _, _, _, _, _, _]) rfl rfl rfl (Nat.le_of_ble_eq_true rfl) rfl ?_
          refine ra_load rfl rfl rfl rfl ?_
          refine ra_load rfl rfl rfl rfl ?_
          refine ra_icne rfl rfl (by first | omega | (unfold ra_in at *; omega)) hx2 (fun h7 => ?_) (fun h7 => ?_)
          · refine ra_iinc (L' := [_, _, _, _, _, _, _]) rfl rfl (Nat.le_of_ble_eq_true rfl) rfl ?_
            refine ra_goto rfl rfl ?_
            exact ra_weak (by repeat' constructor) (ih (0) (v5 + (-1)) (sci_n hv4_0 (by omega) (fun hc => by obtain ⟨c1, c2, c3⟩ := hc; first | exact absurd (hz4p.mpr c1) (by omega))) (by first | omega | (unfold ra_in at *; omega)) (by first | omega | (unfold ra_in at *; omega)) (by first | omega | (unfold ra_in at *; omega)))
          · refine ra_load rfl rfl rfl rfl ?_
            exact ra_ireturn rfl rfl ⟨⟨_, (by first | omega | (unfold ra_in at *; omega)), (by exfalso; have := hp; omega), rfl⟩, rfl⟩
        · exact absurd h6 (by decide)
      · refine ra_load rfl rfl rfl rfl ?_
        refine ra_load rfl rfl rfl rfl ?_
        refine ra_i2l rfl (by first | omega | (unfold ra_in at *; omega)) ?_
        refine ra_lconst1 rfl ?_
        refine ra_iconst rfl ?_
        refine ra_cQPp (sp_212 (by first | omega | (unfold ra_in at *; omega)) (by first | omega | (unfold ra_in at *; omega)) (by first | omega | (unfold ra_in at *; omega))) rfl (ct_212 rfl lk_8_107 (Or.inl rfl) sh_179 (Nat.le_of_ble_eq_true rfl)) (fun z9 hz9 hz9p => ?_)
        refine ra_ifne rfl rfl (ra_in01 hz9) (fun h10 => ?_) (fun h10 => ?_)
        · refine ra_iconst rfl ?_
          refine ra_store (L' := [_, _, _, _, _, _, _]) rfl rfl rfl (Nat.le_of_ble_eq_true rfl) rfl ?_
          refine ra_load rfl rfl rfl rfl ?_
          refine ra_ifeq rfl rfl (by first | omega | (unfold ra_in at *; omega)) (fun h11 => ?_) (fun h11 => ?_)
          · refine ra_iconst rfl ?_
            refine ra_store (L' := [_, _, _, _, _, _, _]) rfl rfl rfl (Nat.le_of_ble_eq_true rfl) rfl ?_
            refine ra_load rfl rfl rfl rfl ?_
            refine ra_load rfl rfl rfl rfl ?_
            refine ra_icne rfl rfl (by first | omega | (unfold ra_in at *; omega)) hx2 (fun h12 => ?_) (fun h12 => ?_)
            · refine ra_iinc (L' := [_, _, _, _, _, _, _]) rfl rfl (Nat.le_of_ble_eq_true rfl) rfl ?_
              refine ra_goto rfl rfl ?_
              exact ra_weak (by repeat' constructor) (ih (0) (v5 + (-1)) (sci_n hv4_0 (by omega) (fun hc => by obtain ⟨c1, c2, c3⟩ := hc; first | exact absurd (hz4p.mpr c1) (by omega) | exact c2 (hz9p.mp (by omega)) | omega)) (by first | omega | (unfold ra_in at *; omega)) (by first | omega | (unfold ra_in at *; omega)) (by first | omega | (unfold ra_in at *; omega)))
            · refine ra_load rfl rfl rfl rfl ?_
              exact ra_ireturn rfl rfl ⟨⟨_, (by first | omega | (unfold ra_in at *; omega)), (by exfalso; have := hp; omega), rfl⟩, rfl⟩
          · exact absurd h11 (by decide)
        · refine ra_load rfl rfl rfl rfl ?_
          refine ra_i2l rfl (by first | omega | (unfold ra_in at *; omega)) ?_
          refine ra_lconst1 rfl ?_
          refine ra_load rfl rfl rfl rfl ?_
          refine ra_i2l rfl hx1 ?_
          refine ra_load rfl rfl rfl rfl ?_
          refine ra_load rfl rfl rfl rfl ?_
          refine ra_iconst rfl ?_
          refine ra_cTp (sp_199 hx0 (by first | omega | (unfold ra_in at *; omega)) (by first | assumption | rfl | omega)) rfl (ct_199 rfl lk_8_67 (Or.inl rfl) sh_179 (Nat.le_of_ble_eq_true rfl)) ?_
          have hr14 : ra_in (wq σ x0 (2)) := (ra_in_wq _ _ _)
          refine ra_i2l rfl hr14 ?_
          refine ra_cTp (sp_211 (by first | omega | (unfold ra_in at *; omega)) (by first | omega | (unfold ra_in at *; omega)) hx1 hr14) rfl (ct_211 rfl lk_8_86 (Or.inl rfl) (Nat.le_of_ble_eq_true rfl)) ?_
          refine ra_ifneB rfl rfl (fun h16 => ?_) (fun h16 => ?_)
          · refine ra_iconst rfl ?_
            refine ra_store (L' := [_, _, _, _, _, _, _]) rfl rfl rfl (Nat.le_of_ble_eq_true rfl) rfl ?_
            refine ra_load rfl rfl rfl rfl ?_
            refine ra_ifeq rfl rfl (by first | omega | (unfold ra_in at *; omega)) (fun h17 => ?_) (fun h17 => ?_)
            · refine ra_iconst rfl ?_
              refine ra_store (L' := [_, _, _, _, _, _, _]) rfl rfl rfl (Nat.le_of_ble_eq_true rfl) rfl ?_
              refine ra_load rfl rfl rfl rfl ?_
              refine ra_load rfl rfl rfl rfl ?_
              refine ra_icne rfl rfl (by first | omega | (unfold ra_in at *; omega)) hx2 (fun h18 => ?_) (fun h18 => ?_)
              · refine ra_iinc (L' := [_, _, _, _, _, _, _]) rfl rfl (Nat.le_of_ble_eq_true rfl) rfl ?_
                refine ra_goto rfl rfl ?_
                exact ra_weak (by repeat' constructor) (ih (0) (v5 + (-1)) (sci_n hv4_0 (by omega) (fun hc => by obtain ⟨c1, c2, c3⟩ := hc; first | exact absurd (hz4p.mpr c1) (by omega) | exact c2 (hz9p.mp (by omega)) | omega)) (by first | omega | (unfold ra_in at *; omega)) (by first | omega | (unfold ra_in at *; omega)) (by first | omega | (unfold ra_in at *; omega)))
              · refine ra_load rfl rfl rfl rfl ?_
                exact ra_ireturn rfl rfl ⟨⟨_, (by first | omega | (unfold ra_in at *; omega)), (by exfalso; have := hp; omega), rfl⟩, rfl⟩
            · exact absurd h17 (by decide)
          · refine ra_iconst rfl ?_
            refine ra_goto rfl rfl ?_
            refine ra_store (L' := [_, _, _, _, _, _, _]) rfl rfl rfl (Nat.le_of_ble_eq_true rfl) rfl ?_
            refine ra_load rfl rfl rfl rfl ?_
            refine ra_ifeq rfl rfl (by first | omega | (unfold ra_in at *; omega)) (fun h19 => ?_) (fun h19 => ?_)
            · exact absurd h19 (by decide)
            · refine ra_load rfl rfl rfl rfl ?_
              refine ra_iconst rfl ?_
              refine ra_iadd rfl ?_
              refine ra_goto rfl rfl ?_
              refine ra_store (L' := [_, _, _, _, _, _, _]) rfl rfl rfl (Nat.le_of_ble_eq_true rfl) rfl ?_
              refine ra_load rfl rfl rfl rfl ?_
              refine ra_load rfl rfl rfl rfl ?_
              refine ra_icne rfl rfl (by first | omega | (unfold ra_in at *; omega)) hx2 (fun h20 => ?_) (fun h20 => ?_)
              · refine ra_iinc (L' := [_, _, _, _, _, _, _]) rfl rfl (Nat.le_of_ble_eq_true rfl) rfl ?_
                refine ra_goto rfl rfl ?_
                exact ra_weak (by repeat' constructor) (ih (v4 + (1)) (v5 + (-1)) (sci_y hv4_0 (by omega) ⟨hz4p.mp (by omega), fun q => absurd (hz9p.mpr q) (by omega), by omega⟩ (by omega)) (by first | omega | (unfold ra_in at *; omega)) (by first | omega | (unfold ra_in at *; omega)) (by first | omega | (unfold ra_in at *; omega)))
              · refine ra_load rfl rfl rfl rfl ?_
                exact ra_ireturn rfl rfl ⟨⟨_, (by first | omega | (unfold ra_in at *; omega)), (sci_f hv4_0 (by omega) ⟨hz4p.mp (by omega), fun q => absurd (hz9p.mpr q) (by omega), by omega⟩ (by omega) hw), rfl⟩, rfl⟩
theorem sp_222 {n : Nat} {f : Nat → Int32} {d : Nat} {x0 : Int} {x1 : Int} {x2 : Int} {σ : ra_V} (hx0 : ra_in x0) (hx1 : ra_in x1) (hx2 : ra_in x2) (hw : WFa σ) (hp : -1 ≤ x0 ∧ x0 < 8 ∧ 1 ≤ x2) : ra_C (g_Gs n f) g_sh 0 (d + 3) 222 [.index (179), ra_I x0, ra_I x1, ra_I x2] σ (fun r s => (∃ z, ra_in z ∧ ((z = -1 ∨ (0 ≤ z ∧ z + x2 ≤ 600)) ∧ (z = -1 → ¬ SCE σ x0 x1 x2) ∧ (z ≠ -1 → SCE σ x0 x1 x2)) ∧ r = .inl (some (ra_I z))) ∧ s = σ) := by
  refine ra_enter (nn := 3) mt_222 rfl (Nat.le_of_ble_eq_true rfl) rfl (fun h => absurd h (by decide +kernel)) ?_
  have hw0 := hw
  unfold WFa at hw0
  refine ra_iconst rfl ?_
  refine ra_store (L' := [_, _, _, _, _, _, _]) rfl rfl rfl (Nat.le_of_ble_eq_true rfl) rfl ?_
  refine ra_load rfl rfl rfl rfl ?_
  refine ra_getR rfl lk_8_7 (Nat.zero_le _) sh_179 rfl ?_
  refine ra_iconst rfl ?_
  refine ra_ialoadJ (j := 0) rfl sh_180 rfl (by decide) rfl (by decide) ?_
  have hr1 : ra_in (ra_g σ (180) 0) := (ra_in_g _ _ _)
  refine ra_iconst rfl ?_
  refine ra_isub rfl ?_
  refine ra_store (L' := [_, _, _, _, _, _, _]) rfl rfl rfl (Nat.le_of_ble_eq_true rfl) rfl ?_
  exact ra_weak (by repeat' constructor) (lp_222_13 hx0 hx1 hx2 hw hp _ (0) ((ra_g σ (180) 0) - (1)) (sci_0 (by omega) hw) (by first | omega | (unfold ra_in at *; omega)) (by first | omega | (unfold ra_in at *; omega)) (Nat.lt_succ_self _))
end RB
