/-! T5: what the reference changes (printed by wip/gen/r6.py) -/
section
theorem l5_222_16 {n : Nat} {f : Nat → Int32} {d : Nat} {x0 : Int} {x1 : Int} {σ : ra_V} (hx0 : ra_in x0) (hx1 : ra_in x1) (hw : WF σ) : ∀ (nn : Nat) (v3 : Int) (v4 : Int) (s : ra_V) (hv3_0 : -1 ≤ v3) (hv3_1 : v3 < ra_g s 179 10 ∨ v3 = -1) (hv3_2 : v3 ≠ -1 → x0 ≤ rz_ s v3) (hv3_3 : v3 = x5fbG σ x0 x1 v4.toNat) (hv4_0 : 0 ≤ v4) (hv4_1 : v4 ≤ 300) (hv4_2 : v4 ≤ ra_g s 179 10) (hF : Fr (179) (187) σ s) (hk0 : s (180) = σ (180)) (hk1 : s (181) = σ (181)) (hk2 : s (182) = σ (182)) (hk3 : s (183) = σ (183)) (hk4 : s (184) = σ (184)) (ho : ∀ a, a ≠ 10 → ra_g s 179 a = ra_g σ 179 a) (hz : GZ σ s) (hfr : x5GFR σ s) (h1x : 1 ≤ x0) (hm : ((ra_g s 179 10 - v4 : Int)).toNat < nn), ra_P (g_Gs n f) g_sh 0 (d + 5) g_m_X8_fits 16 [some (.index (179)), some (ra_I x0), some (ra_I x1), some (ra_I v3), some (ra_I v4)] [] s (fun r9 s => (∃ z, ra_in z ∧ ((z = -1 ∨ (US σ z x0 ∧ ¬ TK σ z x0 (-1) ∧ ¬ BT σ z x0)) ∧ (z = x5fitF σ x0 x1)) ∧ r9 = .inl (some (ra_I z))) ∧ Fr (179) (187) σ s ∧ s (180) = σ (180) ∧ s (181) = σ (181) ∧ s (182) = σ (182) ∧ s (183) = σ (183) ∧ s (184) = σ (184) ∧ (∀ a, a ≠ 10 → ra_g s 179 a = ra_g σ 179 a)) := by
  intro nn
  induction nn with
  | zero => intro v3 v4 s hv3_0 hv3_1 hv3_2 hv3_3 hv4_0 hv4_1 hv4_2 hF hk0 hk1 hk2 hk3 hk4 ho hz hfr h1x hm; exact absurd hm (Nat.not_lt_zero _)
  | succ nn ih =>
    intro v3 v4 s hv3_0 hv3_1 hv3_2 hv3_3 hv4_0 hv4_1 hv4_2 hF hk0 hk1 hk2 hk3 hk4 ho hz hfr h1x hm
    have hz0 := hz
    obtain ⟨z1, z2, z3⟩ := hz0
    have hfn := hfr.1
    have hfn2 := hfr.2.1
    refine ra_load rfl rfl rfl rfl ?_
    refine ra_load rfl rfl rfl rfl ?_
    refine ra_getI rfl lk_8_114 (Nat.zero_le _) sh_179 rfl ?_
    have hr18 : ra_in (ra_g s (179) 10) := (ra_in_g _ _ _)
    refine ra_icge rfl rfl (by first | omega | (unfold ra_in at *; omega)) hr18 (fun h19 => ?_) (fun h19 => ?_)
    · refine ra_load rfl rfl rfl rfl ?_
      refine ra_iconst rfl ?_
      refine ra_icne rfl rfl (by first | omega | (unfold ra_in at *; omega)) (by first | omega | (unfold ra_in at *; omega)) (fun h20 => ?_) (fun h20 => ?_)
      · refine ra_load rfl rfl rfl rfl ?_
        refine ra_load rfl rfl rfl rfl ?_
        refine ra_cTp (sp_219 (by first | omega | (unfold ra_in at *; omega)) (WF_k hk0 hw) (GZ_k hk0 hz) (by first | assumption | rfl | omega)) rfl (ct_219 rfl lk_8_123 (Or.inl rfl) sh_179 (Nat.le_of_ble_eq_true rfl)) ?_
        have hr22 : ra_in (rs_ s v3) := (rs_in (WF_k hk0 hw) (GZ_k hk0 hz) (by first | assumption | rfl | omega))
        exact ra_ireturn rfl rfl ⟨⟨_, hr22, ⟨(Or.inr (rz_fit hk0 hw hz (by omega) (by omega) (hv3_2 (by omega)))), (by have q9 := (x5rs_e hk0 hfr ⟨by omega, by omega⟩ : rs_ s v3 = x5rsG σ v3 ∧ rz_ s v3 = x5rmG σ v3).1; have q8 := x5fit_y (τ := σ) (size := x0) (rule := x1) (by omega) (by rw [← (show v4.toNat = (x5gpN σ).toNat by omega), ← hv3_3]; omega); rw [← (show v4.toNat = (x5gpN σ).toNat by omega), ← hv3_3] at q8; rw [← q8]; exact q9)⟩, rfl⟩, ⟨hF, hk0, hk1, hk2, hk3, hk4, ho⟩⟩
      · refine ra_iconst rfl ?_
        refine ra_goto rfl rfl ?_
        exact ra_ireturn rfl rfl ⟨⟨_, (by first | omega | (unfold ra_in at *; omega)), ⟨(Or.inl rfl), x5fit_n (by omega) (by rw [← (show v4.toNat = (x5gpN σ).toNat by omega), ← hv3_3]; omega)⟩, rfl⟩, ⟨hF, hk0, hk1, hk2, hk3, hk4, ho⟩⟩
    · refine ra_load rfl rfl rfl rfl ?_
      refine ra_load rfl rfl rfl rfl ?_
      refine ra_cTp (sp_220 (by first | omega | (unfold ra_in at *; omega)) (WF_k hk0 hw) (GZ_k hk0 hz) (by first | assumption | rfl | omega)) rfl (ct_220 rfl lk_8_133 (Or.inl rfl) sh_179 (Nat.le_of_ble_eq_true rfl)) ?_
      have hr24 : ra_in (rz_ s v4) := (rz_in (WF_k hk0 hw) (GZ_k hk0 hz) (by first | assumption | rfl | omega))
      refine ra_load rfl rfl rfl rfl ?_
      refine ra_icge rfl rfl hr24 hx0 (fun h25 => ?_) (fun h25 => ?_)
      · refine ra_load rfl rfl rfl rfl ?_
        refine ra_iconst rfl ?_
        refine ra_iceq rfl rfl (by first | omega | (unfold ra_in at *; omega)) (by first | omega | (unfold ra_in at *; omega)) (fun h26 => ?_) (fun h26 => ?_)
        · refine ra_load rfl rfl rfl rfl ?_
          refine ra_store (L' := [_, _, _, _, _]) rfl rfl rfl (Nat.le_of_ble_eq_true rfl) rfl ?_
          refine ra_iinc (L' := [_, _, _, _, _]) rfl rfl (Nat.le_of_ble_eq_true rfl) rfl ?_
          refine ra_goto rfl rfl ?_
          exact ra_weak (by repeat' constructor) (ih v4 (v4 + 1) s (by first | omega | (unfold ra_in at *; omega)) (by first | omega | (unfold ra_in at *; omega)) (by first | exact hv3_2 | (intro q; omega)) (by rw [show (v4 + 1).toNat = v4.toNat + 1 by omega]; have e9 : ((v4.toNat : Nat) : Int) = v4 := (by omega); have q8 := (x5rs_e hk0 hfr ⟨by omega, by omega⟩ : rs_ s v4 = x5rsG σ v4 ∧ rz_ s v4 = x5rmG σ v4).2; have q7 : v3 ≠ -1 → rz_ s v3 = x5rmG σ v3 := fun c9 => (x5rs_e hk0 hfr ⟨by omega, by omega⟩ : rs_ s v3 = x5rsG σ v3 ∧ rz_ s v3 = x5rmG σ v3).2; refine Eq.trans ?_ (x5fbG_y (by rw [e9]; omega) (by rw [e9, ← hv3_3]; omega)).symm; omega) (by first | omega | (unfold ra_in at *; omega)) (by first | omega | (unfold ra_in at *; omega)) (by first | omega | (unfold ra_in at *; omega)) hF hk0 hk1 hk2 hk3 hk4 (by first | assumption | omega) (by first | assumption | omega) hfr (by omega) (by first | omega | (unfold ra_in at *; omega)))
        · refine ra_load rfl rfl rfl rfl ?_
          refine ra_iconst rfl ?_
          refine ra_icne rfl rfl hx1 (by first | omega | (unfold ra_in at *; omega)) (fun h27 => ?_) (fun h27 => ?_)
          · refine ra_load rfl rfl rfl rfl ?_
            refine ra_iconst rfl ?_
            refine ra_icne rfl rfl hx1 (by first | omega | (unfold ra_in at *; omega)) (fun h28 => ?_) (fun h28 => ?_)
            · refine ra_iinc (L' := [_, _, _, _, _]) rfl rfl (Nat.le_of_ble_eq_true rfl) rfl ?_
              refine ra_goto rfl rfl ?_
              exact ra_weak (by repeat' constructor) (ih v3 (v4 + 1) s (by first | omega | (unfold ra_in at *; omega)) (by first | omega | (unfold ra_in at *; omega)) (by first | exact hv3_2 | (intro q; omega)) (by rw [show (v4 + 1).toNat = v4.toNat + 1 by omega]; have e9 : ((v4.toNat : Nat) : Int) = v4 := (by omega); have q8 := (x5rs_e hk0 hfr ⟨by omega, by omega⟩ : rs_ s v4 = x5rsG σ v4 ∧ rz_ s v4 = x5rmG σ v4).2; have q7 : v3 ≠ -1 → rz_ s v3 = x5rmG σ v3 := fun c9 => (x5rs_e hk0 hfr ⟨by omega, by omega⟩ : rs_ s v3 = x5rsG σ v3 ∧ rz_ s v3 = x5rmG σ v3).2; refine Eq.trans hv3_3 (x5fbG_n (by rw [e9, ← hv3_3]; omega)).symm) (by first | omega | (unfold ra_in at *; omega)) (by first | omega | (unfold ra_in at *; omega)) (by first | omega | (unfold ra_in at *; omega)) hF hk0 hk1 hk2 hk3 hk4 (by first | assumption | omega) (by first | assumption | omega) hfr (by omega) (by first | omega | (unfold ra_in at *; omega)))
            · refine ra_load rfl rfl rfl rfl ?_
              refine ra_load rfl rfl rfl rfl ?_
              refine ra_cTp (sp_220 (by first | omega | (unfold ra_in at *; omega)) (WF_k hk0 hw) (GZ_k hk0 hz) (by first | assumption | rfl | omega)) rfl (ct_220 rfl lk_8_133 (Or.inl rfl) sh_179 (Nat.le_of_ble_eq_true rfl)) ?_
              have hr30 : ra_in (rz_ s v4) := (rz_in (WF_k hk0 hw) (GZ_k hk0 hz) (by first | assumption | rfl | omega))
              refine ra_load rfl rfl rfl rfl ?_
              refine ra_load rfl rfl rfl rfl ?_
              refine ra_cTp (sp_220 (by first | omega | (unfold ra_in at *; omega)) (WF_k hk0 hw) (GZ_k hk0 hz) (by first | assumption | rfl | omega)) rfl (ct_220 rfl lk_8_133 (Or.inl rfl) sh_179 (Nat.le_of_ble_eq_true rfl)) ?_
              have hr32 : ra_in (rz_ s v3) := (rz_in (WF_k hk0 hw) (GZ_k hk0 hz) (by first | assumption | rfl | omega))
              refine ra_icle rfl rfl hr30 hr32 (fun h33 => ?_) (fun h33 => ?_)
              · refine ra_iinc (L' := [_, _, _, _, _]) rfl rfl (Nat.le_of_ble_eq_true rfl) rfl ?_
                refine ra_goto rfl rfl ?_
                exact ra_weak (by repeat' constructor) (ih v3 (v4 + 1) s (by first | omega | (unfold ra_in at *; omega)) (by first | omega | (unfold ra_in at *; omega)) (by first | exact hv3_2 | (intro q; omega)) (by rw [show (v4 + 1).toNat = v4.toNat + 1 by omega]; have e9 : ((v4.toNat : Nat) : Int) = v4 := (by omega); have q8 := (x5rs_e hk0 hfr ⟨by omega, by omega⟩ : rs_ s v4 = x5rsG σ v4 ∧ rz_ s v4 = x5rmG σ v4).2; have q7 : v3 ≠ -1 → rz_ s v3 = x5rmG σ v3 := fun c9 => (x5rs_e hk0 hfr ⟨by omega, by omega⟩ : rs_ s v3 = x5rsG σ v3 ∧ rz_ s v3 = x5rmG σ v3).2; refine Eq.trans hv3_3 (x5fbG_n (by rw [e9, ← hv3_3]; omega)).symm) (by first | omega | (unfold ra_in at *; omega)) (by first | omega | (unfold ra_in at *; omega)) (by first | omega | (unfold ra_in at *; omega)) hF hk0 hk1 hk2 hk3 hk4 (by first | assumption | omega) (by first | assumption | omega) hfr (by omega) (by first | omega | (unfold ra_in at *; omega)))
              · refine ra_load rfl rfl rfl rfl ?_
                refine ra_store (L' := [_, _, _, _, _]) rfl rfl rfl (Nat.le_of_ble_eq_true rfl) rfl ?_
                refine ra_iinc (L' := [_, _, _, _, _]) rfl rfl (Nat.le_of_ble_eq_true rfl) rfl ?_
                refine ra_goto rfl rfl ?_
                exact ra_weak (by repeat' constructor) (ih v4 (v4 + 1) s (by first | omega | (unfold ra_in at *; omega)) (by first | omega | (unfold ra_in at *; omega)) (by first | exact hv3_2 | (intro q; omega)) (by rw [show (v4 + 1).toNat = v4.toNat + 1 by omega]; have e9 : ((v4.toNat : Nat) : Int) = v4 := (by omega); have q8 := (x5rs_e hk0 hfr ⟨by omega, by omega⟩ : rs_ s v4 = x5rsG σ v4 ∧ rz_ s v4 = x5rmG σ v4).2; have q7 : v3 ≠ -1 → rz_ s v3 = x5rmG σ v3 := fun c9 => (x5rs_e hk0 hfr ⟨by omega, by omega⟩ : rs_ s v3 = x5rsG σ v3 ∧ rz_ s v3 = x5rmG σ v3).2; refine Eq.trans ?_ (x5fbG_y (by rw [e9]; omega) (by rw [e9, ← hv3_3]; omega)).symm; omega) (by first | omega | (unfold ra_in at *; omega)) (by first | omega | (unfold ra_in at *; omega)) (by first | omega | (unfold ra_in at *; omega)) hF hk0 hk1 hk2 hk3 hk4 (by first | assumption | omega) (by first | assumption | omega) hfr (by omega) (by first | omega | (unfold ra_in at *; omega)))
          · refine ra_load rfl rfl rfl rfl ?_
            refine ra_load rfl rfl rfl rfl ?_
            refine ra_cTp (sp_220 (by first | omega | (unfold ra_in at *; omega)) (WF_k hk0 hw) (GZ_k hk0 hz) (by first | assumption | rfl | omega)) rfl (ct_220 rfl lk_8_133 (Or.inl rfl) sh_179 (Nat.le_of_ble_eq_true rfl)) ?_
            have hr35 : ra_in (rz_ s v4) := (rz_in (WF_k hk0 hw) (GZ_k hk0 hz) (by first | assumption | rfl | omega))
            refine ra_load rfl rfl rfl rfl ?_
            refine ra_load rfl rfl rfl rfl ?_
            refine ra_cTp (sp_220 (by first | omega | (unfold ra_in at *; omega)) (WF_k hk0 hw) (GZ_k hk0 hz) (by first | assumption | rfl | omega)) rfl (ct_220 rfl lk_8_133 (Or.inl rfl) sh_179 (Nat.le_of_ble_eq_true rfl)) ?_
            have hr37 : ra_in (rz_ s v3) := (rz_in (WF_k hk0 hw) (GZ_k hk0 hz) (by first | assumption | rfl | omega))
            refine ra_iclt rfl rfl hr35 hr37 (fun h38 => ?_) (fun h38 => ?_)
            · refine ra_load rfl rfl rfl rfl ?_
              refine ra_store (L' := [_, _, _, _, _]) rfl rfl rfl (Nat.le_of_ble_eq_true rfl) rfl ?_
              refine ra_iinc (L' := [_, _, _, _, _]) rfl rfl (Nat.le_of_ble_eq_true rfl) rfl ?_
              refine ra_goto rfl rfl ?_
              exact ra_weak (by repeat' constructor) (ih v4 (v4 + 1) s (by first | omega | (unfold ra_in at *; omega)) (by first | omega | (unfold ra_in at *; omega)) (by first | exact hv3_2 | (intro q; omega)) (by rw [show (v4 + 1).toNat = v4.toNat + 1 by omega]; have e9 : ((v4.toNat : Nat) : Int) = v4 := (by omega); have q8 := (x5rs_e hk0 hfr ⟨by omega, by omega⟩ : rs_ s v4 = x5rsG σ v4 ∧ rz_ s v4 = x5rmG σ v4).2; have q7 : v3 ≠ -1 → rz_ s v3 = x5rmG σ v3 := fun c9 => (x5rs_e hk0 hfr ⟨by omega, by omega⟩ : rs_ s v3 = x5rsG σ v3 ∧ rz_ s v3 = x5rmG σ v3).2; refine Eq.trans ?_ (x5fbG_y (by rw [e9]; omega) (by rw [e9, ← hv3_3]; omega)).symm; omega) (by first | omega | (unfold ra_in at *; omega)) (by first | omega | (unfold ra_in at *; omega)) (by first | omega | (unfold ra_in at *; omega)) hF hk0 hk1 hk2 hk3 hk4 (by first | assumption | omega) (by first | assumption | omega) hfr (by omega) (by first | omega | (unfold ra_in at *; omega)))
            · refine ra_load rfl rfl rfl rfl ?_
              refine ra_iconst rfl ?_
              refine ra_icne rfl rfl hx1 (by first | omega | (unfold ra_in at *; omega)) (fun h39 => ?_) (fun h39 => ?_)
              · refine ra_iinc (L' := [_, _, _, _, _]) rfl rfl (Nat.le_of_ble_eq_true rfl) rfl ?_
                refine ra_goto rfl rfl ?_
                exact ra_weak (by repeat' constructor) (ih v3 (v4 + 1) s (by first | omega | (unfold ra_in at *; omega)) (by first | omega | (unfold ra_in at *; omega)) (by first | exact hv3_2 | (intro q; omega)) (by rw [show (v4 + 1).toNat = v4.toNat + 1 by omega]; have e9 : ((v4.toNat : Nat) : Int) = v4 := (by omega); have q8 := (x5rs_e hk0 hfr ⟨by omega, by omega⟩ : rs_ s v4 = x5rsG σ v4 ∧ rz_ s v4 = x5rmG σ v4).2; have q7 : v3 ≠ -1 → rz_ s v3 = x5rmG σ v3 := fun c9 => (x5rs_e hk0 hfr ⟨by omega, by omega⟩ : rs_ s v3 = x5rsG σ v3 ∧ rz_ s v3 = x5rmG σ v3).2; refine Eq.trans hv3_3 (x5fbG_n (by rw [e9, ← hv3_3]; omega)).symm) (by first | omega | (unfold ra_in at *; omega)) (by first | omega | (unfold ra_in at *; omega)) (by first | omega | (unfold ra_in at *; omega)) hF hk0 hk1 hk2 hk3 hk4 (by first | assumption | omega) (by first | assumption | omega) hfr (by omega) (by first | omega | (unfold ra_in at *; omega)))
              · refine ra_load rfl rfl rfl rfl ?_
                refine ra_load rfl rfl rfl rfl ?_
                refine ra_cTp (sp_220 (by first | omega | (unfold ra_in at *; omega)) (WF_k hk0 hw) (GZ_k hk0 hz) (by first | assumption | rfl | omega)) rfl (ct_220 rfl lk_8_133 (Or.inl rfl) sh_179 (Nat.le_of_ble_eq_true rfl)) ?_
                have hr41 : ra_in (rz_ s v4) := (rz_in (WF_k hk0 hw) (GZ_k hk0 hz) (by first | assumption | rfl | omega))
                refine ra_load rfl rfl rfl rfl ?_
                refine ra_load rfl rfl rfl rfl ?_
                refine ra_cTp (sp_220 (by first | omega | (unfold ra_in at *; omega)) (WF_k hk0 hw) (GZ_k hk0 hz) (by first | assumption | rfl | omega)) rfl (ct_220 rfl lk_8_133 (Or.inl rfl) sh_179 (Nat.le_of_ble_eq_true rfl)) ?_
                have hr43 : ra_in (rz_ s v3) := (rz_in (WF_k hk0 hw) (GZ_k hk0 hz) (by first | assumption | rfl | omega))
                refine ra_icle rfl rfl hr41 hr43 (fun h44 => ?_) (fun h44 => ?_)
                · refine ra_iinc (L' := [_, _, _, _, _]) rfl rfl (Nat.le_of_ble_eq_true rfl) rfl ?_
                  refine ra_goto rfl rfl ?_
                  exact ra_weak (by repeat' constructor) (ih v3 (v4 + 1) s (by first | omega | (unfold ra_in at *; omega)) (by first | omega | (unfold ra_in at *; omega)) (by first | exact hv3_2 | (intro q; omega)) (by rw [show (v4 + 1).toNat = v4.toNat + 1 by omega]; have e9 : ((v4.toNat : Nat) : Int) = v4 := (by omega); have q8 := (x5rs_e hk0 hfr ⟨by omega, by omega⟩ : rs_ s v4 = x5rsG σ v4 ∧ rz_ s v4 = x5rmG σ v4).2; have q7 : v3 ≠ -1 → rz_ s v3 = x5rmG σ v3 := fun c9 => (x5rs_e hk0 hfr ⟨by omega, by omega⟩ : rs_ s v3 = x5rsG σ v3 ∧ rz_ s v3 = x5rmG σ v3).2; refine Eq.trans hv3_3 (x5fbG_n (by rw [e9, ← hv3_3]; omega)).symm) (by first | omega | (unfold ra_in at *; omega)) (by first | omega | (unfold ra_in at *; omega)) (by first | omega | (unfold ra_in at *; omega)) hF hk0 hk1 hk2 hk3 hk4 (by first | assumption | omega) (by first | assumption | omega) hfr (by omega) (by first | omega | (unfold ra_in at *; omega)))
                · refine ra_load rfl rfl rfl rfl ?_
                  refine ra_store (L' := [_, _, _, _, _]) rfl rfl rfl (Nat.le_of_ble_eq_true rfl) rfl ?_
                  refine ra_iinc (L' := [_, _, _, _, _]) rfl rfl (Nat.le_of_ble_eq_true rfl) rfl ?_
                  refine ra_goto rfl rfl ?_
                  exact ra_weak (by repeat' constructor) (ih v4 (v4 + 1) s (by first | omega | (unfold ra_in at *; omega)) (by first | omega | (unfold ra_in at *; omega)) (by first | exact hv3_2 | (intro q; omega)) (by rw [show (v4 + 1).toNat = v4.toNat + 1 by omega]; have e9 : ((v4.toNat : Nat) : Int) = v4 := (by omega); have q8 := (x5rs_e hk0 hfr ⟨by omega, by omega⟩ : rs_ s v4 = x5rsG σ v4 ∧ rz_ s v4 = x5rmG σ v4).2; have q7 : v3 ≠ -1 → rz_ s v3 = x5rmG σ v3 := fun c9 => (x5rs_e hk0 hfr ⟨by omega, by omega⟩ : rs_ s v3 = x5rsG σ v3 ∧ rz_ s v3 = x5rmG σ v3).2; refine Eq.trans ?_ (x5fbG_y (by rw [e9]; omega) (by rw [e9, ← hv3_3]; omega)).symm; omega) (by first | omega | (unfold ra_in at *; omega)) (by first | omega | (unfold ra_in at *; omega)) (by first | omega | (unfold ra_in at *; omega)) hF hk0 hk1 hk2 hk3 hk4 (by first | assumption | omega) (by first | assumption | omega) hfr (by omega) (by first | omega | (unfold ra_in at *; omega)))
      · refine ra_goto rfl rfl ?_
        refine ra_iinc (L' := [_, _, _, _, _]) rfl rfl (Nat.le_of_ble_eq_true rfl) rfl ?_
        refine ra_goto rfl rfl ?_
        exact ra_weak (by repeat' constructor) (ih v3 (v4 + 1) s (by first | omega | (unfold ra_in at *; omega)) (by first | omega | (unfold ra_in at *; omega)) (by first | exact hv3_2 | (intro q; omega)) (by rw [show (v4 + 1).toNat = v4.toNat + 1 by omega]; have e9 : ((v4.toNat : Nat) : Int) = v4 := (by omega); have q8 := (x5rs_e hk0 hfr ⟨by omega, by omega⟩ : rs_ s v4 = x5rsG σ v4 ∧ rz_ s v4 = x5rmG σ v4).2; have q7 : v3 ≠ -1 → rz_ s v3 = x5rmG σ v3 := fun c9 => (x5rs_e hk0 hfr ⟨by omega, by omega⟩ : rs_ s v3 = x5rsG σ v3 ∧ rz_ s v3 = x5rmG σ v3).2; refine Eq.trans hv3_3 (x5fbG_n (by rw [e9, ← hv3_3]; omega)).symm) (by first | omega | (unfold ra_in at *; omega)) (by first | omega | (unfold ra_in at *; omega)) (by first | omega | (unfold ra_in at *; omega)) hF hk0 hk1 hk2 hk3 hk4 (by first | assumption | omega) (by first | assumption | omega) hfr (by omega) (by first | omega | (unfold ra_in at *; omega)))
theorem s5_222 {n : Nat} {f : Nat → Int32} {d : Nat} {x0 : Int} {x1 : Int} {σ : ra_V} (hx0 : ra_in x0) (hx1 : ra_in x1) (hw : WF σ) : ra_C (g_Gs n f) g_sh 0 (d + 6) 222 [.index (179), ra_I x0, ra_I x1] σ (fun r9 s => (∃ z, ra_in z ∧ ((z = -1 ∨ (US σ z x0 ∧ ¬ TK σ z x0 (-1) ∧ ¬ BT σ z x0)) ∧ (z = x5fitF σ x0 x1)) ∧ r9 = .inl (some (ra_I z))) ∧ Fr (179) (187) σ s ∧ s (180) = σ (180) ∧ s (181) = σ (181) ∧ s (182) = σ (182) ∧ s (183) = σ (183) ∧ s (184) = σ (184) ∧ (∀ a, a ≠ 10 → ra_g s 179 a = ra_g σ 179 a)) := by
  refine ra_enter (nn := 2) mt_222 rfl (Nat.le_of_ble_eq_true rfl) rfl (fun h => absurd h (by decide +kernel)) ?_
  refine ra_load rfl rfl rfl rfl ?_
  refine ra_iconst rfl ?_
  refine ra_icge rfl rfl hx0 (by first | omega | (unfold ra_in at *; omega)) (fun h1 => ?_) (fun h1 => ?_)
  · refine ra_load rfl rfl rfl rfl ?_
    refine ra_cV (s5_218 hw) rfl (ct_218 rfl lk_8_130 (Or.inl rfl) sh_179 (Nat.le_of_ble_eq_true rfl)) (fun s2 hs2 => ?_)
    obtain ⟨hf3, hc4, hc5, hc6, hc7, hc8, he9, he10, he11⟩ := hs2
    have hF12 := Fr_tr (lo := 179) (hi := 187) Fr_rf hf3 (by omega)
    have hk13 : s2 (180) = σ (180) := hc4
    have hk14 : s2 (181) = σ (181) := hc5
    have hk15 : s2 (182) = σ (182) := hc6
    have hk16 : s2 (183) = σ (183) := hc7
    have hk17 : s2 (184) = σ (184) := hc8
    have he10a := he10.1
    have he10b := he10.2.1
    refine ra_iconst rfl ?_
    refine ra_store (L' := [_, _, _, _, _]) rfl rfl rfl (Nat.le_of_ble_eq_true rfl) rfl ?_
    refine ra_iconst rfl ?_
    refine ra_store (L' := [_, _, _, _, _]) rfl rfl rfl (Nat.le_of_ble_eq_true rfl) rfl ?_
    exact ra_weak (by repeat' constructor) (l5_222_16 hx0 hx1 hw _ (-1) (0) s2 (by first | omega | (unfold ra_in at *; omega)) (by first | omega | (unfold ra_in at *; omega)) (fun q => absurd rfl q) rfl (by first | omega | (unfold ra_in at *; omega)) (by first | omega | (unfold ra_in at *; omega)) (by first | omega | (unfold ra_in at *; omega)) hF12 hk13 hk14 hk15 hk16 hk17 he9 he10 he11 (by omega) (Nat.lt_succ_self _))
  · refine ra_iconst rfl ?_
    exact ra_ireturn rfl rfl ⟨⟨_, (by first | omega | (unfold ra_in at *; omega)), ⟨(Or.inl rfl), x5fit_0 (by omega)⟩, rfl⟩, ⟨Fr_rf, rfl, rfl, rfl, rfl, rfl, fun _ _ => rfl⟩⟩
end
