/-! the reference: what its methods do (printed by wip/gen/ref.py) -/
section RB
theorem sp_218 {n : Nat} {f : Nat → Int32} {d : Nat} {x0 : Int} {σ : ra_V} (hx0 : ra_in x0) (hw : WF σ) (hz : GZ σ σ) (hi : 0 ≤ x0 ∧ x0 < ra_g σ 179 10) : ra_C (g_Gs n f) g_sh 0 (d + 2) 218 [.index (179), ra_I x0] σ (fun r s => r = .inl (some (ra_I (rs_ σ x0))) ∧ s = σ) := by
  refine ra_enter (nn := 0) mt_218 rfl (Nat.le_of_ble_eq_true rfl) rfl (fun h => absurd h (by decide +kernel)) ?_
  have hw0 := WF_a hw
  unfold WFa at hw0
  have hz0 := hz
  obtain ⟨z1, z2, z3⟩ := hz0
  obtain ⟨p1, p2, p3, p4⟩ := z3 x0 (by omega) (by omega)
  refine ra_load rfl rfl rfl rfl ?_
  refine ra_getR rfl lk_8_25 (Nat.zero_le _) sh_179 rfl ?_
  refine ra_load rfl rfl rfl rfl ?_
  refine ra_iaload rfl sh_185 rfl (by decide) (by first | omega | (unfold ra_in at *; omega)) (by first | omega | (unfold ra_in at *; omega)) ?_
  have hr1 : ra_in (ra_g σ (185) x0.toNat) := (ra_in_g _ _ _)
  refine ra_load rfl rfl rfl rfl ?_
  refine ra_getR rfl lk_8_7 (Nat.zero_le _) sh_179 rfl ?_
  refine ra_iconst rfl ?_
  refine ra_ialoadJ (j := 3) rfl sh_180 rfl (by decide) rfl (by decide) ?_
  have hr2 : ra_in (ra_g σ (180) 3) := (ra_in_g _ _ _)
  refine ra_cTp (sp_206 hr1 hr2 (by first | assumption | rfl | omega)) rfl (ct_206 rfl lk_8_120 (Or.inl rfl) (Nat.le_of_ble_eq_true rfl)) ?_
  have hr4 : ra_in (((ra_g σ (185) x0.toNat) + (ra_g σ (180) 3) - 1).tdiv (ra_g σ (180) 3)) := (ra_in_tdiv (by unfold ra_in; omega) (by omega))
  refine ra_load rfl rfl rfl rfl ?_
  refine ra_getR rfl lk_8_7 (Nat.zero_le _) sh_179 rfl ?_
  refine ra_iconst rfl ?_
  refine ra_ialoadJ (j := 3) rfl sh_180 rfl (by decide) rfl (by decide) ?_
  have hr5 : ra_in (ra_g σ (180) 3) := (ra_in_g _ _ _)
  refine ra_imul rfl ?_
  exact ra_ireturn rfl rfl ⟨(congrArg (fun z => Sum.inl (some (ra_I z))) rfl), rfl⟩
theorem sp_219 {n : Nat} {f : Nat → Int32} {d : Nat} {x0 : Int} {σ : ra_V} (hx0 : ra_in x0) (hw : WF σ) (hz : GZ σ σ) (hi : 0 ≤ x0 ∧ x0 < ra_g σ 179 10) : ra_C (g_Gs n f) g_sh 0 (d + 3) 219 [.index (179), ra_I x0] σ (fun r s => r = .inl (some (ra_I (rz_ σ x0))) ∧ s = σ) := by
  refine ra_enter (nn := 0) mt_219 rfl (Nat.le_of_ble_eq_true rfl) rfl (fun h => absurd h (by decide +kernel)) ?_
  have hs0 := rs_b hw hz hi
  have hw0 := WF_a hw
  unfold WFa at hw0
  have hz0 := hz
  obtain ⟨z1, z2, z3⟩ := hz0
  obtain ⟨p1, p2, p3, p4⟩ := z3 x0 (by omega) (by omega)
  refine ra_iconst rfl ?_
  refine ra_load rfl rfl rfl rfl ?_
  refine ra_getR rfl lk_8_25 (Nat.zero_le _) sh_179 rfl ?_
  refine ra_load rfl rfl rfl rfl ?_
  refine ra_iaload rfl sh_185 rfl (by decide) (by first | omega | (unfold ra_in at *; omega)) (by first | omega | (unfold ra_in at *; omega)) ?_
  have hr1 : ra_in (ra_g σ (185) x0.toNat) := (ra_in_g _ _ _)
  refine ra_load rfl rfl rfl rfl ?_
  refine ra_getR rfl lk_8_28 (Nat.zero_le _) sh_179 rfl ?_
  refine ra_load rfl rfl rfl rfl ?_
  refine ra_iaload rfl sh_186 rfl (by decide) (by first | omega | (unfold ra_in at *; omega)) (by first | omega | (unfold ra_in at *; omega)) ?_
  have hr2 : ra_in (ra_g σ (186) x0.toNat) := (ra_in_g _ _ _)
  refine ra_iadd rfl ?_
  refine ra_load rfl rfl rfl rfl ?_
  refine ra_load rfl rfl rfl rfl ?_
  refine ra_cTp (sp_218 hx0 hw (by first | assumption | rfl | omega) (by first | assumption | rfl | omega)) rfl (ct_218 rfl lk_8_123 (Or.inl rfl) sh_179 (Nat.le_of_ble_eq_true rfl)) ?_
  have hr4 : ra_in (rs_ σ x0) := (rs_in hw (by first | assumption | rfl | omega) (by first | assumption | rfl | omega))
  refine ra_isub rfl ?_
  refine ra_max rfl lk_8_127 (by first | omega | (unfold ra_in at *; omega)) (by first | omega | (unfold ra_in at *; omega)) (Nat.le_of_ble_eq_true rfl) ?_
  exact ra_ireturn rfl rfl ⟨(congrArg (fun z => Sum.inl (some (ra_I z))) rfl), rfl⟩
theorem lp_220_8 {n : Nat} {f : Nat → Int32} {d : Nat}  {σ : ra_V} (hw : WF σ) : ∀ (nn : Nat) (v1 : Int) (v2 : Int) (s : ra_V) (hv1 : ra_in v1) (hv2_0 : 0 ≤ v2) (hv2_1 : v2 ≤ 300) (hF : Fr (179) (187) σ s) (hk0 : s (180) = σ (180)) (hk1 : s (181) = σ (181)) (hk2 : s (182) = σ (182)) (hk3 : s (183) = σ (183)) (hk4 : s (184) = σ (184)) (ho : ∀ a, a ≠ 10 → ra_g s 179 a = ra_g σ 179 a) (hz : GZ σ s) (hm : ((ra_g s 179 10 - v2 : Int)).toNat < nn), ra_P (g_Gs n f) g_sh 0 (d + 5) g_m_X8_mostRoom 8 [some (.index (179)), some (ra_I v1), some (ra_I v2)] [] s (fun r s => rI r ∧ Fr (179) (187) σ s ∧ s (180) = σ (180) ∧ s (181) = σ (181) ∧ s (182) = σ (182) ∧ s (183) = σ (183) ∧ s (184) = σ (184) ∧ (∀ a, a ≠ 10 → ra_g s 179 a = ra_g σ 179 a) ∧ GZ σ s) := by
  intro nn
  induction nn with
  | zero => intro v1 v2 s hv1 hv2_0 hv2_1 hF hk0 hk1 hk2 hk3 hk4 ho hz hm; exact absurd hm (Nat.not_lt_zero _)
  | succ nn ih =>
    intro v1 v2 s hv1 hv2_0 hv2_1 hF hk0 hk1 hk2 hk3 hk4 ho hz hm
    have hz0 := hz
    obtain ⟨z1, z2, z3⟩ := hz0
    refine ra_load rfl rfl rfl rfl ?_
    refine ra_load rfl rfl rfl rfl ?_
    refine ra_getI rfl lk_8_114 (Nat.zero_le _) sh_179 rfl ?_
    have hr16 : ra_in (ra_g s (179) 10) := (ra_in_g _ _ _)
    refine ra_icge rfl rfl (by first | omega | (unfold ra_in at *; omega)) hr16 (fun h17 => ?_) (fun h17 => ?_)
    · refine ra_load rfl rfl rfl rfl ?_
      exact ra_ireturn rfl rfl ⟨⟨_, hv1, rfl⟩, ⟨hF, hk0, hk1, hk2, hk3, hk4, ho, hz⟩⟩
    · refine ra_load rfl rfl rfl rfl ?_
      refine ra_load rfl rfl rfl rfl ?_
      refine ra_load rfl rfl rfl rfl ?_
      refine ra_cTp (sp_219 (by first | omega | (unfold ra_in at *; omega)) (WF_k hk0 hw) (GZ_k hk0 hz) (by first | assumption | rfl | omega)) rfl (ct_219 rfl lk_8_133 (Or.inl rfl) sh_179 (Nat.le_of_ble_eq_true rfl)) ?_
      have hr19 : ra_in (rz_ s v2) := (rz_in (WF_k hk0 hw) (GZ_k hk0 hz) (by first | assumption | rfl | omega))
      refine ra_max rfl lk_8_127 hv1 hr19 (Nat.le_of_ble_eq_true rfl) ?_
      refine ra_store (L' := [_, _, _]) rfl rfl rfl (Nat.le_of_ble_eq_true rfl) rfl ?_
      refine ra_iinc (L' := [_, _, _]) rfl rfl (Nat.le_of_ble_eq_true rfl) rfl ?_
      refine ra_goto rfl rfl ?_
      exact ra_weak (by repeat' constructor) (ih (max v1 (rz_ s v2)) (v2 + 1) s (by first | omega | (unfold ra_in at *; omega)) (by first | omega | (unfold ra_in at *; omega)) (by first | omega | (unfold ra_in at *; omega)) hF hk0 hk1 hk2 hk3 hk4 (by first | assumption | omega) (by first | assumption | omega) (by first | omega | (unfold ra_in at *; omega)))
theorem sp_220 {n : Nat} {f : Nat → Int32} {d : Nat}  {σ : ra_V} (hw : WF σ) : ra_C (g_Gs n f) g_sh 0 (d + 6) 220 [.index (179)] σ (fun r s => rI r ∧ Fr (179) (187) σ s ∧ s (180) = σ (180) ∧ s (181) = σ (181) ∧ s (182) = σ (182) ∧ s (183) = σ (183) ∧ s (184) = σ (184) ∧ (∀ a, a ≠ 10 → ra_g s 179 a = ra_g σ 179 a) ∧ GZ σ s) := by
  refine ra_enter (nn := 2) mt_220 rfl (Nat.le_of_ble_eq_true rfl) rfl (fun h => absurd h (by decide +kernel)) ?_
  refine ra_load rfl rfl rfl rfl ?_
  refine ra_cV (sp_217 hw) rfl (ct_217 rfl lk_8_130 (Or.inl rfl) sh_179 (Nat.le_of_ble_eq_true rfl)) (fun s1 hs1 => ?_)
  obtain ⟨hf2, hc3, hc4, hc5, hc6, hc7, he8, he9⟩ := hs1
  have hF10 := Fr_tr (lo := 179) (hi := 187) Fr_rf hf2 (by omega)
  have hk11 : s1 (180) = σ (180) := hc3
  have hk12 : s1 (181) = σ (181) := hc4
  have hk13 : s1 (182) = σ (182) := hc5
  have hk14 : s1 (183) = σ (183) := hc6
  have hk15 : s1 (184) = σ (184) := hc7
  have he9a := he9.1
  have he9b := he9.2.1
  refine ra_iconst rfl ?_
  refine ra_store (L' := [_, _, _]) rfl rfl rfl (Nat.le_of_ble_eq_true rfl) rfl ?_
  refine ra_iconst rfl ?_
  refine ra_store (L' := [_, _, _]) rfl rfl rfl (Nat.le_of_ble_eq_true rfl) rfl ?_
  exact ra_weak (by repeat' constructor) (lp_220_8 hw _ (0) (0) s1 (by first | omega | (unfold ra_in at *; omega)) (by first | omega | (unfold ra_in at *; omega)) (by first | omega | (unfold ra_in at *; omega)) hF10 hk11 hk12 hk13 hk14 hk15 he8 he9 (Nat.lt_succ_self _))
theorem lp_221_16 {n : Nat} {f : Nat → Int32} {d : Nat} {x0 : Int} {x1 : Int} {σ : ra_V} (hx0 : ra_in x0) (hx1 : ra_in x1) (hw : WF σ) : ∀ (nn : Nat) (v3 : Int) (v4 : Int) (s : ra_V) (hv3_0 : -1 ≤ v3) (hv3_1 : v3 < ra_g s 179 10 ∨ v3 = -1) (hv3_2 : v3 ≠ -1 → x0 ≤ rz_ s v3) (hv4_0 : 0 ≤ v4) (hv4_1 : v4 ≤ 300) (hF : Fr (179) (187) σ s) (hk0 : s (180) = σ (180)) (hk1 : s (181) = σ (181)) (hk2 : s (182) = σ (182)) (hk3 : s (183) = σ (183)) (hk4 : s (184) = σ (184)) (ho : ∀ a, a ≠ 10 → ra_g s 179 a = ra_g σ 179 a) (hz : GZ σ s) (h1x : 1 ≤ x0) (hm : ((ra_g s 179 10 - v4 : Int)).toNat < nn), ra_P (g_Gs n f) g_sh 0 (d + 5) g_m_X8_fits 16 [some (.index (179)), some (ra_I x0), some (ra_I x1), some (ra_I v3), some (ra_I v4)] [] s (fun r s => (∃ z, ra_in z ∧ (z = -1 ∨ (US σ z x0 ∧ ¬ TK σ z x0 (-1) ∧ ¬ BT σ z x0)) ∧ r = .inl (some (ra_I z))) ∧ Fr (179) (187) σ s ∧ s (180) = σ (180) ∧ s (181) = σ (181) ∧ s (182) = σ (182) ∧ s (183) = σ (183) ∧ s (184) = σ (184) ∧ (∀ a, a ≠ 10 → ra_g s 179 a = ra_g σ 179 a)) := by
  intro nn
  induction nn with
  | zero => intro v3 v4 s hv3_0 hv3_1 hv3_2 hv4_0 hv4_1 hF hk0 hk1 hk2 hk3 hk4 ho hz h1x hm; exact absurd hm (Nat.not_lt_zero _)
  | succ nn ih =>
    intro v3 v4 s hv3_0 hv3_1 hv3_2 hv4_0 hv4_1 hF hk0 hk1 hk2 hk3 hk4 ho hz h1x hm
    have hz0 := hz
    obtain ⟨z1, z2, z3⟩ := hz0
    refine ra_load rfl rfl rfl rfl ?_
    refine ra_load rfl rfl rfl rfl ?_
    refine ra_getI rfl lk_8_114 (Nat.zero_le _) sh_179 rfl ?_
    have hr17 : ra_in (ra_g s (179) 10) := (ra_in_g _ _ _)
    refine ra_icge rfl rfl (by first | omega | (unfold ra_in at *; omega)) hr17 (fun h18 => ?_) (fun h18 => ?_)
    · refine ra_load rfl rfl rfl rfl ?_
      refine ra_iconst rfl ?_
      refine ra_icne rfl rfl (by first | omega | (unfold ra_in at *; omega)) (by first | omega | (unfold ra_in at *; omega)) (fun h19 => ?_) (fun h19 => ?_)
      · refine ra_load rfl rfl rfl rfl ?_
        refine ra_load rfl rfl rfl rfl ?_
        refine ra_cTp (sp_218 (by first | omega | (unfold ra_in at *; omega)) (WF_k hk0 hw) (GZ_k hk0 hz) (by first | assumption | rfl | omega)) rfl (ct_218 rfl lk_8_123 (Or.inl rfl) sh_179 (Nat.le_of_ble_eq_true rfl)) ?_
        have hr21 : ra_in (rs_ s v3) := (rs_in (WF_k hk0 hw) (GZ_k hk0 hz) (by first | assumption | rfl | omega))
        exact ra_ireturn rfl rfl ⟨⟨_, hr21, (Or.inr (rz_fit hk0 hw hz (by omega) (by omega) (hv3_2 (by omega)))), rfl⟩, ⟨hF, hk0, hk1, hk2, hk3, hk4, ho⟩⟩
      · refine ra_iconst rfl ?_
        refine ra_goto rfl rfl ?_
        exact ra_ireturn rfl rfl ⟨⟨_, (by first | omega | (unfold ra_in at *; omega)), (Or.inl rfl), rfl⟩, ⟨hF, hk0, hk1, hk2, hk3, hk4, ho⟩⟩
    · refine ra_load rfl rfl rfl rfl ?_
      refine ra_load rfl rfl rfl rfl ?_
      refine ra_cTp (sp_219 (by first | omega | (unfold ra_in at *; omega)) (WF_k hk0 hw) (GZ_k hk0 hz) (by first | assumption | rfl | omega)) rfl (ct_219 rfl lk_8_133 (Or.inl rfl) sh_179 (Nat.le_of_ble_eq_true rfl)) ?_
      have hr23 : ra_in (rz_ s v4) := (rz_in (WF_k hk0 hw) (GZ_k hk0 hz) (by first | assumption | rfl | omega))
      refine ra_load rfl rfl rfl rfl ?_
      refine ra_icge rfl rfl hr23 hx0 (fun h24 => ?_) (fun h24 => ?_)
      · refine ra_load rfl rfl rfl rfl ?_
        refine ra_iconst rfl ?_
        refine ra_iceq rfl rfl (by first | omega | (unfold ra_in at *; omega)) (by first | omega | (unfold ra_in at *; omega)) (fun h25 => ?_) (fun h25 => ?_)
        · refine ra_load rfl rfl rfl rfl ?_
          refine ra_store (L' := [_, _, _, _, _]) rfl rfl rfl (Nat.le_of_ble_eq_true rfl) rfl ?_
          refine ra_iinc (L' := [_, _, _, _, _]) rfl rfl (Nat.le_of_ble_eq_true rfl) rfl ?_
          refine ra_goto rfl rfl ?_
          exact ra_weak (by repeat' constructor) (ih v4 (v4 + 1) s (by first | omega | (unfold ra_in at *; omega)) (by first | omega | (unfold ra_in at *; omega)) (by first | exact hv3_2 | (intro q; omega)) (by first | omega | (unfold ra_in at *; omega)) (by first | omega | (unfold ra_in at *; omega)) hF hk0 hk1 hk2 hk3 hk4 (by first | assumption | omega) (by first | assumption | omega) (by omega) (by first | omega | (unfold ra_in at *; omega)))
        · refine ra_load rfl rfl rfl rfl ?_
          refine ra_iconst rfl ?_
          refine ra_icne rfl rfl hx1 (by first | omega | (unfold ra_in at *; omega)) (fun h26 => ?_) (fun h26 => ?_)
          · refine ra_load rfl rfl rfl rfl ?_
            refine ra_iconst rfl ?_
            refine ra_icne rfl rfl hx1 (by first | omega | (unfold ra_in at *; omega)) (fun h27 => ?_) (fun h27 => ?_)
            · refine ra_iinc (L' := [_, _, _, _, _]) rfl rfl (Nat.le_of_ble_eq_true rfl) rfl ?_
              refine ra_goto rfl rfl ?_
              exact ra_weak (by repeat' constructor) (ih v3 (v4 + 1) s (by first | omega | (unfold ra_in at *; omega)) (by first | omega | (unfold ra_in at *; omega)) (by first | exact hv3_2 | (intro q; omega)) (by first | omega | (unfold ra_in at *; omega)) (by first | omega | (unfold ra_in at *; omega)) hF hk0 hk1 hk2 hk3 hk4 (by first | assumption | omega) (by first | assumption | omega) (by omega) (by first | omega | (unfold ra_in at *; omega)))
            · refine ra_load rfl rfl rfl rfl ?_
              refine ra_load rfl rfl rfl rfl ?_
              refine ra_cTp (sp_219 (by first | omega | (unfold ra_in at *; omega)) (WF_k hk0 hw) (GZ_k hk0 hz) (by first | assumption | rfl | omega)) rfl (ct_219 rfl lk_8_133 (Or.inl rfl) sh_179 (Nat.le_of_ble_eq_true rfl)) ?_
              have hr29 : ra_in (rz_ s v4) := (rz_in (WF_k hk0 hw) (GZ_k hk0 hz) (by first | assumption | rfl | omega))
              refine ra_load rfl rfl rfl rfl ?_
              refine ra_load rfl rfl rfl rfl ?_
              refine ra_cTp (sp_219 (by first | omega | (unfold ra_in at *; omega)) (WF_k hk0 hw) (GZ_k hk0 hz) (by first | assumption | rfl | omega)) rfl (ct_219 rfl lk_8_133 (Or.inl rfl) sh_179 (Nat.le_of_ble_eq_true rfl)) ?_
              have hr31 : ra_in (rz_ s v3) := (rz_in (WF_k hk0 hw) (GZ_k hk0 hz) (by first | assumption | rfl | omega))
              refine ra_icle rfl rfl hr29 hr31 (fun h32 => ?_) (fun h32 => ?_)
              · refine ra_iinc (L' := [_, _, _, _, _]) rfl rfl (Nat.le_of_ble_eq_true rfl) rfl ?_
                refine ra_goto rfl rfl ?_
                exact ra_weak (by repeat' constructor) (ih v3 (v4 + 1) s (by first | omega | (unfold ra_in at *; omega)) (by first | omega | (unfold ra_in at *; omega)) (by first | exact hv3_2 | (intro q; omega)) (by first | omega | (unfold ra_in at *; omega)) (by first | omega | (unfold ra_in at *; omega)) hF hk0 hk1 hk2 hk3 hk4 (by first | assumption | omega) (by first | assumption | omega) (by omega) (by first | omega | (unfold ra_in at *; omega)))
              · refine ra_load rfl rfl rfl rfl ?_
                refine ra_store (L' := [_, _, _, _, _]) rfl rfl rfl (Nat.le_of_ble_eq_true rfl) rfl ?_
                refine ra_iinc (L' := [_, _, _, _, _]) rfl rfl (Nat.le_of_ble_eq_true rfl) rfl ?_
                refine ra_goto rfl rfl ?_
                exact ra_weak (by repeat' constructor) (ih v4 (v4 + 1) s (by first | omega | (unfold ra_in at *; omega)) (by first | omega | (unfold ra_in at *; omega)) (by first | exact hv3_2 | (intro q; omega)) (by first | omega | (unfold ra_in at *; omega)) (by first | omega | (unfold ra_in at *; omega)) hF hk0 hk1 hk2 hk3 hk4 (by first | assumption | omega) (by first | assumption | omega) (by omega) (by first | omega | (unfold ra_in at *; omega)))
          · refine ra_load rfl rfl rfl rfl ?_
            refine ra_load rfl rfl rfl rfl ?_
            refine ra_cTp (sp_219 (by first | omega | (unfold ra_in at *; omega)) (WF_k hk0 hw) (GZ_k hk0 hz) (by first | assumption | rfl | omega)) rfl (ct_219 rfl lk_8_133 (Or.inl rfl) sh_179 (Nat.le_of_ble_eq_true rfl)) ?_
            have hr34 : ra_in (rz_ s v4) := (rz_in (WF_k hk0 hw) (GZ_k hk0 hz) (by first | assumption | rfl | omega))
            refine ra_load rfl rfl rfl rfl ?_
            refine ra_load rfl rfl rfl rfl ?_
            refine ra_cTp (sp_219 (by first | omega | (unfold ra_in at *; omega)) (WF_k hk0 hw) (GZ_k hk0 hz) (by first | assumption | rfl | omega)) rfl (ct_219 rfl lk_8_133 (Or.inl rfl) sh_179 (Nat.le_of_ble_eq_true rfl)) ?_
            have hr36 : ra_in (rz_ s v3) := (rz_in (WF_k hk0 hw) (GZ_k hk0 hz) (by first | assumption | rfl | omega))
            refine ra_iclt rfl rfl hr34 hr36 (fun h37 => ?_) (fun h37 => ?_)
            · refine ra_load rfl rfl rfl rfl ?_
              refine ra_store (L' := [_, _, _, _, _]) rfl rfl rfl (Nat.le_of_ble_eq_true rfl) rfl ?_
              refine ra_iinc (L' := [_, _, _, _, _]) rfl rfl (Nat.le_of_ble_eq_true rfl) rfl ?_
              refine ra_goto rfl rfl ?_
              exact ra_weak (by repeat' constructor) (ih v4 (v4 + 1) s (by first | omega | (unfold ra_in at *; omega)) (by first | omega | (unfold ra_in at *; omega)) (by first | exact hv3_2 | (intro q; omega)) (by first | omega | (unfold ra_in at *; omega)) (by first | omega | (unfold ra_in at *; omega)) hF hk0 hk1 hk2 hk3 hk4 (by first | assumption | omega) (by first | assumption | omega) (by omega) (by first | omega | (unfold ra_in at *; omega)))
            · refine ra_load rfl rfl rfl rfl ?_
              refine ra_iconst rfl ?_
              refine ra_icne rfl rfl hx1 (by first | omega | (unfold ra_in at *; omega)) (fun h38 => ?_) (fun h38 => ?_)
              · refine ra_iinc (L' := [_, _, _, _, _]) rfl rfl (Nat.le_of_ble_eq_true rfl) rfl ?_
                refine ra_goto rfl rfl ?_
                exact ra_weak (by repeat' constructor) (ih v3 (v4 + 1) s (by first | omega | (unfold ra_in at *; omega)) (by first | omega | (unfold ra_in at *; omega)) (by first | exact hv3_2 | (intro q; omega)) (by first | omega | (unfold ra_in at *; omega)) (by first | omega | (unfold ra_in at *; omega)) hF hk0 hk1 hk2 hk3 hk4 (by first | assumption | omega) (by first | assumption | omega) (by omega) (by first | omega | (unfold ra_in at *; omega)))
              · refine ra_load rfl rfl rfl rfl ?_
                refine ra_load rfl rfl rfl rfl ?_
                refine ra_cTp (sp_219 (by first | omega | (unfold ra_in at *; omega)) (WF_k hk0 hw) (GZ_k hk0 hz) (by first | assumption | rfl | omega)) rfl (ct_219 rfl lk_8_133 (Or.inl rfl) sh_179 (Nat.le_of_ble_eq_true rfl)) ?_
                have hr40 : ra_in (rz_ s v4) := (rz_in (WF_k hk0 hw) (GZ_k hk0 hz) (by first | assumption | rfl | omega))
                refine ra_load rfl rfl rfl rfl ?_
                refine ra_load rfl rfl rfl rfl ?_
                refine ra_cTp (sp_219 (by first | omega | (unfold ra_in at *; omega)) (WF_k hk0 hw) (GZ_k hk0 hz) (by first | assumption | rfl | omega)) rfl (ct_219 rfl lk_8_133 (Or.inl rfl) sh_179 (Nat.le_of_ble_eq_true rfl)) ?_
                have hr42 : ra_in (rz_ s v3) := (rz_in (WF_k hk0 hw) (GZ_k hk0 hz) (by first | assumption | rfl | omega))
                refine ra_icle rfl rfl hr40 hr42 (fun h43 => ?_) (fun h43 => ?_)
                · refine ra_iinc (L' := [_, _, _, _, _]) rfl rfl (Nat.le_of_ble_eq_true rfl) rfl ?_
                  refine ra_goto rfl rfl ?_
                  exact ra_weak (by repeat' constructor) (ih v3 (v4 + 1) s (by first | omega | (unfold ra_in at *; omega)) (by first | omega | (unfold ra_in at *; omega)) (by first | exact hv3_2 | (intro q; omega)) (by first | omega | (unfold ra_in at *; omega)) (by first | omega | (unfold ra_in at *; omega)) hF hk0 hk1 hk2 hk3 hk4 (by first | assumption | omega) (by first | assumption | omega) (by omega) (by first | omega | (unfold ra_in at *; omega)))
                · refine ra_load rfl rfl rfl rfl ?_
                  refine ra_store (L' := [_, _, _, _, _]) rfl rfl rfl (Nat.le_of_ble_eq_true rfl) rfl ?_
                  refine ra_iinc (L' := [_, _, _, _, _]) rfl rfl (Nat.le_of_ble_eq_true rfl) rfl ?_
                  refine ra_goto rfl rfl ?_
                  exact ra_weak (by repeat' constructor) (ih v4 (v4 + 1) s (by first | omega | (unfold ra_in at *; omega)) (by first | omega | (unfold ra_in at *; omega)) (by first | exact hv3_2 | (intro q; omega)) (by first | omega | (unfold ra_in at *; omega)) (by first | omega | (unfold ra_in at *; omega)) hF hk0 hk1 hk2 hk3 hk4 (by first | assumption | omega) (by first | assumption | omega) (by omega) (by first | omega | (unfold ra_in at *; omega)))
      · refine ra_goto rfl rfl ?_
        refine ra_iinc (L' := [_, _, _, _, _]) rfl rfl (Nat.le_of_ble_eq_true rfl) rfl ?_
        refine ra_goto rfl rfl ?_
        exact ra_weak (by repeat' constructor) (ih v3 (v4 + 1) s (by first | omega | (unfold ra_in at *; omega)) (by first | omega | (unfold ra_in at *; omega)) (by first | exact hv3_2 | (intro q; omega)) (by first | omega | (unfold ra_in at *; omega)) (by first | omega | (unfold ra_in at *; omega)) hF hk0 hk1 hk2 hk3 hk4 (by first | assumption | omega) (by first | assumption | omega) (by omega) (by first | omega | (unfold ra_in at *; omega)))
theorem sp_221 {n : Nat} {f : Nat → Int32} {d : Nat} {x0 : Int} {x1 : Int} {σ : ra_V} (hx0 : ra_in x0) (hx1 : ra_in x1) (hw : WF σ) : ra_C (g_Gs n f) g_sh 0 (d + 6) 221 [.index (179), ra_I x0, ra_I x1] σ (fun r s => (∃ z, ra_in z ∧ (z = -1 ∨ (US σ z x0 ∧ ¬ TK σ z x0 (-1) ∧ ¬ BT σ z x0)) ∧ r = .inl (some (ra_I z))) ∧ Fr (179) (187) σ s ∧ s (180) = σ (180) ∧ s (181) = σ (181) ∧ s (182) = σ (182) ∧ s (183) = σ (183) ∧ s (184) = σ (184) ∧ (∀ a, a ≠ 10 → ra_g s 179 a = ra_g σ 179 a)) := by
  refine ra_enter (nn := 2) mt_221 rfl (Nat.le_of_ble_eq_true rfl) rfl (fun h => absurd h (by decide +kernel)) ?_
  refine ra_load rfl rfl rfl rfl ?_
  refine ra_iconst rfl ?_
  refine ra_icge rfl rfl hx0 (by first | omega | (unfold ra_in at *; omega)) (fun h1 => ?_) (fun h1 => ?_)
  · refine ra_load rfl rfl rfl rfl ?_
    refine ra_cV (sp_217 hw) rfl (ct_217 rfl lk_8_130 (Or.inl rfl) sh_179 (Nat.le_of_ble_eq_true rfl)) (fun s2 hs2 => ?_)
    obtain ⟨hf3, hc4, hc5, hc6, hc7, hc8, he9, he10⟩ := hs2
    have hF11 := Fr_tr (lo := 179) (hi := 187) Fr_rf hf3 (by omega)
    have hk12 : s2 (180) = σ (180) := hc4
    have hk13 : s2 (181) = σ (181) := hc5
    have hk14 : s2 (182) = σ (182) := hc6
    have hk15 : s2 (183) = σ (183) := hc7
    have hk16 : s2 (184) = σ (184) := hc8
    have he10a := he10.1
    have he10b := he10.2.1
    refine ra_iconst rfl ?_
    refine ra_store (L' := [_, _, _, _, _]) rfl rfl rfl (Nat.le_of_ble_eq_true rfl) rfl ?_
    refine ra_iconst rfl ?_
    refine ra_store (L' := [_, _, _, _, _]) rfl rfl rfl (Nat.le_of_ble_eq_true rfl) rfl ?_
    exact ra_weak (by repeat' constructor) (lp_221_16 hx0 hx1 hw _ (-1) (0) s2 (by first | omega | (unfold ra_in at *; omega)) (by first | omega | (unfold ra_in at *; omega)) (fun q => absurd rfl q) (by first | omega | (unfold ra_in at *; omega)) (by first | omega | (unfold ra_in at *; omega)) hF11 hk12 hk13 hk14 hk15 hk16 he9 he10 (by omega) (Nat.lt_succ_self _))
  · refine ra_iconst rfl ?_
    exact ra_ireturn rfl rfl ⟨⟨_, (by first | omega | (unfold ra_in at *; omega)), (Or.inl rfl), rfl⟩, ⟨Fr_rf, rfl, rfl, rfl, rfl, rfl, fun _ _ => rfl⟩⟩
end RB
