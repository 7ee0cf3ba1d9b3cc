/-! T5: what the reference changes (printed by wip/gen/r6.py) -/
section
theorem l8_279_8 {n : Nat} {f : Nat → Int32} {d : Nat} {x0 : Int} {σ : ra_V} (hx0 : ra_in x0) (hw : WF σ) (hk : 0 ≤ x0 ∧ x0 < ct σ (-1)) : ∀ (nn : Nat) (v2 : Int) (v3 : Int) (hv2_0 : 0 ≤ v2 ∧ v2 < 8 ∧ wq σ v2 0 = 1) (hv2_1 : ct σ (wq σ v2 1) = ct σ (-1) - v3 - 1) (hv2_2 : x5ordN σ v3.toNat = v2) (hv3_0 : 0 ≤ v3) (hv3_1 : v3 ≤ x0) (hm : ((x0 - v3 : Int)).toNat < nn), ra_P (g_Gs n f) g_sh 0 (d + 2) g_m_X8_standsAt 8 [some (.index (179)), some (ra_I x0), some (ra_I v2), some (ra_I v3)] [] σ (fun r9 s => (∃ z, ra_in z ∧ ((0 ≤ z ∧ z < 8 ∧ wq σ z 0 = 1) ∧ x5HID (x5ordN σ x0.toNat = z)) ∧ r9 = .inl (some (ra_I z))) ∧ s = σ) := by
  intro nn
  induction nn with
  | zero => intro v2 v3 hv2_0 hv2_1 hv2_2 hv3_0 hv3_1 hm; exact absurd hm (Nat.not_lt_zero _)
  | succ nn ih =>
    intro v2 v3 hv2_0 hv2_1 hv2_2 hv3_0 hv3_1 hm
    refine ra_load rfl rfl rfl rfl ?_
    refine ra_load rfl rfl rfl rfl ?_
    refine ra_icge rfl rfl (by first | omega | (unfold ra_in at *; omega)) hx0 (fun h3 => ?_) (fun h3 => ?_)
    · refine ra_load rfl rfl rfl rfl ?_
      exact ra_ireturn rfl rfl ⟨⟨_, (by first | omega | (unfold ra_in at *; omega)), ⟨by omega, x5hid (by rw [show x0.toNat = v3.toNat by omega]; exact hv2_2)⟩, rfl⟩, rfl⟩
    · refine ra_load rfl rfl rfl rfl ?_
      refine ra_iconst rfl ?_
      refine ra_iceq rfl rfl (by first | omega | (unfold ra_in at *; omega)) (by first | omega | (unfold ra_in at *; omega)) (fun h4 => ?_) (fun h4 => ?_)
      · refine ra_load rfl rfl rfl rfl ?_
        exact ra_ireturn rfl rfl ⟨⟨_, (by first | omega | (unfold ra_in at *; omega)), ⟨by omega, x5hid (by rw [show x0.toNat = v3.toNat by omega]; exact hv2_2)⟩, rfl⟩, rfl⟩
      · refine ra_load rfl rfl rfl rfl ?_
        refine ra_load rfl rfl rfl rfl ?_
        refine ra_load rfl rfl rfl rfl ?_
        refine ra_iconst rfl ?_
        refine ra_cTp (sp_200 (by first | omega | (unfold ra_in at *; omega)) (by first | omega | (unfold ra_in at *; omega)) (by first | assumption | rfl | omega)) rfl (ct_200 rfl lk_8_67 (Or.inl rfl) sh_179 (Nat.le_of_ble_eq_true rfl)) ?_
        have hr6 : ra_in (wq σ v2 (1)) := (ra_in_wq _ _ _)
        refine ra_cIPp (sp_278 hr6) rfl (ct_278 rfl lk_8_333 (Or.inl rfl) sh_179 (Nat.le_of_ble_eq_true rfl)) (fun z8 hz8 hz8p => ?_)
        refine ra_store (L' := [_, _, _, _]) rfl rfl rfl (Nat.le_of_ble_eq_true rfl) rfl ?_
        refine ra_iinc (L' := [_, _, _, _]) rfl rfl (Nat.le_of_ble_eq_true rfl) rfl ?_
        refine ra_goto rfl rfl ?_
        exact ra_weak (by repeat' constructor) (ih z8 (v3 + 1) (nb_st hw hz8p (by omega)).1 (by have := (nb_st hw hz8p (by omega)).2; omega) (by have q9 := nb_st hw hz8p (by omega); rw [show (v3 + 1).toNat = v3.toNat + 1 by omega]; exact ((x5oq_s (k := v3.toNat) hw hv2_2 (by omega) (by omega) hz8p).2 (by omega)).1) (by first | omega | (unfold ra_in at *; omega)) (by first | omega | (unfold ra_in at *; omega)) (by first | omega | (unfold ra_in at *; omega)))
theorem s8_279 {n : Nat} {f : Nat → Int32} {d : Nat} {x0 : Int} {σ : ra_V} (hx0 : ra_in x0) (hw : WF σ) (hk : 0 ≤ x0 ∧ x0 < ct σ (-1)) : ra_C (g_Gs n f) g_sh 0 (d + 3) 279 [.index (179), ra_I x0] σ (fun r9 s => (∃ z, ra_in z ∧ ((0 ≤ z ∧ z < 8 ∧ wq σ z 0 = 1) ∧ x5HID (x5ordN σ x0.toNat = z)) ∧ r9 = .inl (some (ra_I z))) ∧ s = σ) := by
  refine ra_enter (nn := 2) mt_279 rfl (Nat.le_of_ble_eq_true rfl) rfl (fun h => absurd h (by decide +kernel)) ?_
  refine ra_load rfl rfl rfl rfl ?_
  refine ra_iconst rfl ?_
  refine ra_cIPp (sp_278 (by first | omega | (unfold ra_in at *; omega))) rfl (ct_278 rfl lk_8_333 (Or.inl rfl) sh_179 (Nat.le_of_ble_eq_true rfl)) (fun z2 hz2 hz2p => ?_)
  refine ra_store (L' := [_, _, _, _]) rfl rfl rfl (Nat.le_of_ble_eq_true rfl) rfl ?_
  refine ra_iconst rfl ?_
  refine ra_store (L' := [_, _, _, _]) rfl rfl rfl (Nat.le_of_ble_eq_true rfl) rfl ?_
  exact ra_weak (by repeat' constructor) (l8_279_8 hx0 hw hk _ z2 (0) (nb_st hw hz2p (by omega)).1 (by have := (nb_st hw hz2p (by omega)).2; omega) (by have q9 := nb_st hw hz2p (by omega); exact ((x5oq_0 hw hz2p).2 (by omega)).1) (by first | omega | (unfold ra_in at *; omega)) (by first | omega | (unfold ra_in at *; omega)) (Nat.lt_succ_self _))
end
