/-! T5: what the reference changes (printed by wip/gen/r6.py) -/
section
theorem l5_226_6 {n : Nat} {f : Nat → Int32} {d : Nat} {x0 : Int} {x1 : Int} {x2 : Int} {x3 : Int} {x4 : Int} {σ : ra_V} (hx0 : ra_in x0) (hx1 : ra_in x1) (hx2 : ra_in x2) (hx3 : ra_in x3) (hx4 : ra_in x4) (hb : 0 ≤ x0 ∧ x0 ≤ 600 ∧ 1 ≤ x1 ∧ x1 ≤ 16 ∧ 0 ≤ x3 ∧ x4 ≤ 600) : ∀ (nn : Nat) (v5 : Int) (v6 : Int) (hv5_0 : v5 = x5sms x0 x1 x2 x3 (v6 - x3).toNat) (hv5_1 : ra_in v5) (hv6_0 : x3 ≤ v6) (hv6_1 : v6 ≤ x4 ∨ v6 = x3) (hm : ((x4 - v6 : Int)).toNat < nn), ra_P (g_Gs n f) g_sh 0 (d + 0) g_m_X8_stepsOf 6 [some (ra_I x0), some (ra_I x1), some (ra_I x2), none, some (ra_I x4), some (ra_I v5), some (ra_I v6)] [] σ (fun r9 s => r9 = .inl (some (ra_I (x5sms x0 x1 x2 x3 (x4 - x3).toNat))) ∧ s = σ) := by
  intro nn
  induction nn with
  | zero => intro v5 v6 hv5_0 hv5_1 hv6_0 hv6_1 hm; exact absurd hm (Nat.not_lt_zero _)
  | succ nn ih =>
    intro v5 v6 hv5_0 hv5_1 hv6_0 hv6_1 hm
    have hmb : v6 < x4 → 0 ≤ v6 * x1 ∧ v6 * x1 ≤ 9600 := fun q => x5mul_b ⟨by omega, by omega⟩ ⟨by omega, by omega⟩
    have hsb := x5sms_b (m := x0) (c := x1) (d := x2) (a := x3) (v6 - x3).toNat
    refine ra_load rfl rfl rfl rfl ?_
    refine ra_load rfl rfl rfl rfl ?_
    refine ra_icge rfl rfl (by first | omega | (unfold ra_in at *; omega)) hx4 (fun h1 => ?_) (fun h1 => ?_)
    · refine ra_load rfl rfl rfl rfl ?_
      exact ra_ireturn rfl rfl ⟨(congrArg (fun z => Sum.inl (some (ra_I z))) (by rw [hv5_0]; congr 1; omega)), rfl⟩
    · refine ra_load rfl rfl rfl rfl ?_
      refine ra_load rfl rfl rfl rfl ?_
      refine ra_load rfl rfl rfl rfl ?_
      refine ra_load rfl rfl rfl rfl ?_
      refine ra_load rfl rfl rfl rfl ?_
      refine ra_imul rfl ?_
      refine ra_isub rfl ?_
      refine ra_min rfl lk_8_90 hx1 (by first | omega | (unfold ra_in at *; omega)) (Nat.le_of_ble_eq_true rfl) ?_
      refine ra_load rfl rfl rfl rfl ?_
      refine ra_icle rfl rfl (by first | omega | (unfold ra_in at *; omega)) hx2 (fun h2 => ?_) (fun h2 => ?_)
      · refine ra_iconst rfl ?_
        refine ra_iadd rfl ?_
        refine ra_store (L' := [_, _, _, _, _, _, _]) rfl rfl rfl (Nat.le_of_ble_eq_true rfl) rfl ?_
        refine ra_iinc (L' := [_, _, _, _, _, _, _]) rfl rfl (Nat.le_of_ble_eq_true rfl) rfl ?_
        refine ra_goto rfl rfl ?_
        exact ra_weak (by repeat' constructor) (ih (v5 + (1)) (v6 + 1) (by rw [show (v6 + 1 - x3).toNat = (v6 - x3).toNat + 1 by omega]; show _ = x5sms x0 x1 x2 x3 (v6 - x3).toNat + x5stp x0 x1 x2 (x3 + ((v6 - x3).toNat : Int)); rw [show x3 + ((v6 - x3).toNat : Int) = v6 by omega, ← hv5_0]; unfold x5stp; rw [if_neg (by omega)]) (by unfold ra_in; omega) (by first | omega | (unfold ra_in at *; omega)) (by first | omega | (unfold ra_in at *; omega)) (by first | omega | (unfold ra_in at *; omega)))
      · refine ra_iconst rfl ?_
        refine ra_goto rfl rfl ?_
        refine ra_iadd rfl ?_
        refine ra_store (L' := [_, _, _, _, _, _, _]) rfl rfl rfl (Nat.le_of_ble_eq_true rfl) rfl ?_
        refine ra_iinc (L' := [_, _, _, _, _, _, _]) rfl rfl (Nat.le_of_ble_eq_true rfl) rfl ?_
        refine ra_goto rfl rfl ?_
        exact ra_weak (by repeat' constructor) (ih (v5 + (2)) (v6 + 1) (by rw [show (v6 + 1 - x3).toNat = (v6 - x3).toNat + 1 by omega]; show _ = x5sms x0 x1 x2 x3 (v6 - x3).toNat + x5stp x0 x1 x2 (x3 + ((v6 - x3).toNat : Int)); rw [show x3 + ((v6 - x3).toNat : Int) = v6 by omega, ← hv5_0]; unfold x5stp; rw [if_pos (by omega)]) (by unfold ra_in; omega) (by first | omega | (unfold ra_in at *; omega)) (by first | omega | (unfold ra_in at *; omega)) (by first | omega | (unfold ra_in at *; omega)))
theorem s5_226 {n : Nat} {f : Nat → Int32} {d : Nat} {x0 : Int} {x1 : Int} {x2 : Int} {x3 : Int} {x4 : Int} {σ : ra_V} (hx0 : ra_in x0) (hx1 : ra_in x1) (hx2 : ra_in x2) (hx3 : ra_in x3) (hx4 : ra_in x4) (hb : 0 ≤ x0 ∧ x0 ≤ 600 ∧ 1 ≤ x1 ∧ x1 ≤ 16 ∧ 0 ≤ x3 ∧ x4 ≤ 600) : ra_C (g_Gs n f) g_sh 0 (d + 1) 226 [ra_I x0, ra_I x1, ra_I x2, ra_I x3, ra_I x4] σ (fun r9 s => r9 = .inl (some (ra_I (x5sms x0 x1 x2 x3 (x4 - x3).toNat))) ∧ s = σ) := by
  refine ra_enter (nn := 2) mt_226 rfl (Nat.le_of_ble_eq_true rfl) rfl (fun h => absurd h (by decide +kernel)) ?_
  refine ra_iconst rfl ?_
  refine ra_store (L' := [_, _, _, _, _, _, _]) rfl rfl rfl (Nat.le_of_ble_eq_true rfl) rfl ?_
  refine ra_load rfl rfl rfl rfl ?_
  refine ra_store (L' := [_, _, _, _, _, _, _]) rfl rfl rfl (Nat.le_of_ble_eq_true rfl) rfl ?_
  exact ra_weak (by repeat' constructor) (l5_226_6 hx0 hx1 hx2 hx3 hx4 hb _ (0) x3 (by rw [show (x3 - x3).toNat = 0 by omega]; rfl) (by unfold ra_in; omega) (by first | omega | (unfold ra_in at *; omega)) (by first | omega | (unfold ra_in at *; omega)) (Nat.lt_succ_self _))
theorem s5_235 {n : Nat} {f : Nat → Int32} {d : Nat}  {σ : ra_V} (hm : MF σ) : ra_C (g_Gs n f) g_sh 0 (d + 3) 235 [.index (179)] σ (fun r9 s => r9 = .inl (some (ra_I (x5SLF σ))) ∧ s = σ) := by
  refine ra_enter (nn := 2) mt_235 rfl (Nat.le_of_ble_eq_true rfl) rfl (fun h => absurd h (by decide +kernel)) ?_
  have hm0 := hm
  unfold MF at hm0
  refine ra_load rfl rfl rfl rfl ?_
  refine ra_load rfl rfl rfl rfl ?_
  refine ra_getR rfl lk_8_7 (Nat.zero_le _) sh_179 rfl ?_
  refine ra_bipush rfl (by decide) ?_
  refine ra_ialoadJ (j := 16) rfl sh_180 rfl (by decide) rfl (by decide) ?_
  have hr1 : ra_in (ra_g σ (180) 16) := (ra_in_g _ _ _)
  refine ra_iconst rfl ?_
  refine ra_cTp (sp_200 hr1 (by first | omega | (unfold ra_in at *; omega)) (by first | assumption | rfl | omega)) rfl (ct_200 rfl lk_8_67 (Or.inl rfl) sh_179 (Nat.le_of_ble_eq_true rfl)) ?_
  have hr3 : ra_in (wq σ (ra_g σ (180) 16) (2)) := (ra_in_wq _ _ _)
  refine ra_store (L' := [_, _, _]) rfl rfl rfl (Nat.le_of_ble_eq_true rfl) rfl ?_
  refine ra_load rfl rfl rfl rfl ?_
  refine ra_cQPp (sp_230 ) rfl (ct_230 rfl lk_8_147 (Or.inl rfl) sh_179 (Nat.le_of_ble_eq_true rfl)) (fun z5 hz5 hz5p => ?_)
  refine ra_ifeq rfl rfl (ra_in01 hz5) (fun h6 => ?_) (fun h6 => ?_)
  · refine ra_load rfl rfl rfl rfl ?_
    refine ra_load rfl rfl rfl rfl ?_
    refine ra_getR rfl lk_8_7 (Nat.zero_le _) sh_179 rfl ?_
    refine ra_bipush rfl (by decide) ?_
    refine ra_ialoadJ (j := 19) rfl sh_180 rfl (by decide) rfl (by decide) ?_
    have hr7 : ra_in (ra_g σ (180) 19) := (ra_in_g _ _ _)
    refine ra_load rfl rfl rfl rfl ?_
    refine ra_cTp (sp_229 hm) rfl (ct_229 rfl lk_8_159 (Or.inl rfl) sh_179 (Nat.le_of_ble_eq_true rfl)) ?_
    have hr9 : ra_in (rds σ) := (by first | omega | (unfold ra_in at *; omega))
    refine ra_iconst rfl ?_
    refine ra_load rfl rfl rfl rfl ?_
    refine ra_cTp (sp_228 hm) rfl (ct_228 rfl lk_8_150 (Or.inl rfl) sh_179 (Nat.le_of_ble_eq_true rfl)) ?_
    have hr11 : ra_in (rch σ) := (by first | omega | (unfold ra_in at *; omega))
    refine ra_load rfl rfl rfl rfl ?_
    refine ra_getR rfl lk_8_7 (Nat.zero_le _) sh_179 rfl ?_
    refine ra_bipush rfl (by decide) ?_
    refine ra_ialoadJ (j := 21) rfl sh_180 rfl (by decide) rfl (by decide) ?_
    have hr12 : ra_in (ra_g σ (180) 21) := (ra_in_g _ _ _)
    refine ra_isub rfl ?_
    refine ra_cTp (s5_226 hr3 hr7 hr9 (by first | omega | (unfold ra_in at *; omega)) (by first | omega | (unfold ra_in at *; omega)) (by omega)) rfl (ct_226 rfl lk_8_143 (Or.inl rfl) (Nat.le_of_ble_eq_true rfl)) ?_
    have hr14 : ra_in (x5sms (wq σ (ra_g σ (180) 16) (2)) (ra_g σ (180) 19) (rds σ) (0) (((rch σ) - (ra_g σ (180) 21)) - (0)).toNat) := (x5sms_i (by omega))
    refine ra_store (L' := [_, _, _]) rfl rfl rfl (Nat.le_of_ble_eq_true rfl) rfl ?_
    refine ra_load rfl rfl rfl rfl ?_
    refine ra_load rfl rfl rfl rfl ?_
    refine ra_getR rfl lk_8_7 (Nat.zero_le _) sh_179 rfl ?_
    refine ra_bipush rfl (by decide) ?_
    refine ra_ialoadJ (j := 22) rfl sh_180 rfl (by decide) rfl (by decide) ?_
    have hr15 : ra_in (ra_g σ (180) 22) := (ra_in_g _ _ _)
    refine ra_isub rfl ?_
    exact ra_ireturn rfl rfl ⟨(congrArg (fun z => Sum.inl (some (ra_I z))) (by unfold x5SLF; first | (rw [if_pos (by omega)]; rfl) | (rw [if_neg (by omega), Int.sub_zero]; rfl))), rfl⟩
  · refine ra_load rfl rfl rfl rfl ?_
    refine ra_load rfl rfl rfl rfl ?_
    refine ra_getR rfl lk_8_7 (Nat.zero_le _) sh_179 rfl ?_
    refine ra_bipush rfl (by decide) ?_
    refine ra_ialoadJ (j := 19) rfl sh_180 rfl (by decide) rfl (by decide) ?_
    have hr16 : ra_in (ra_g σ (180) 19) := (ra_in_g _ _ _)
    refine ra_load rfl rfl rfl rfl ?_
    refine ra_cTp (sp_229 hm) rfl (ct_229 rfl lk_8_159 (Or.inl rfl) sh_179 (Nat.le_of_ble_eq_true rfl)) ?_
    have hr18 : ra_in (rds σ) := (by first | omega | (unfold ra_in at *; omega))
    refine ra_load rfl rfl rfl rfl ?_
    refine ra_getR rfl lk_8_7 (Nat.zero_le _) sh_179 rfl ?_
    refine ra_bipush rfl (by decide) ?_
    refine ra_ialoadJ (j := 21) rfl sh_180 rfl (by decide) rfl (by decide) ?_
    have hr19 : ra_in (ra_g σ (180) 21) := (ra_in_g _ _ _)
    refine ra_load rfl rfl rfl rfl ?_
    refine ra_cTp (sp_228 hm) rfl (ct_228 rfl lk_8_150 (Or.inl rfl) sh_179 (Nat.le_of_ble_eq_true rfl)) ?_
    have hr21 : ra_in (rch σ) := (by first | omega | (unfold ra_in at *; omega))
    refine ra_cTp (s5_226 hr3 hr16 hr18 hr19 hr21 (by omega)) rfl (ct_226 rfl lk_8_143 (Or.inl rfl) (Nat.le_of_ble_eq_true rfl)) ?_
    have hr23 : ra_in (x5sms (wq σ (ra_g σ (180) 16) (2)) (ra_g σ (180) 19) (rds σ) (ra_g σ (180) 21) ((rch σ) - (ra_g σ (180) 21)).toNat) := (x5sms_i (by omega))
    refine ra_goto rfl rfl ?_
    refine ra_store (L' := [_, _, _]) rfl rfl rfl (Nat.le_of_ble_eq_true rfl) rfl ?_
    refine ra_load rfl rfl rfl rfl ?_
    refine ra_load rfl rfl rfl rfl ?_
    refine ra_getR rfl lk_8_7 (Nat.zero_le _) sh_179 rfl ?_
    refine ra_bipush rfl (by decide) ?_
    refine ra_ialoadJ (j := 22) rfl sh_180 rfl (by decide) rfl (by decide) ?_
    have hr24 : ra_in (ra_g σ (180) 22) := (ra_in_g _ _ _)
    refine ra_isub rfl ?_
    exact ra_ireturn rfl rfl ⟨(congrArg (fun z => Sum.inl (some (ra_I z))) (by unfold x5SLF; first | (rw [if_pos (by omega)]; rfl) | (rw [if_neg (by omega), Int.sub_zero]; rfl))), rfl⟩
end
