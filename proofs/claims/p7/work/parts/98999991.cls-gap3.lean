/-! T5: the class's gaps (printed by wip/gen/c8.py) -/
section
variable {τ : ra_V} {nh : Int} {R : Nat → ra_V}
theorem s5_50 {n : Nat} {f : Nat → Int32} {d : Nat} {x0 : Int} {σ : ra_V} (hx0 : ra_in x0) (hW : x5W2 τ) (hg : x5GFC τ σ) (hi : 0 ≤ x0 ∧ x0 < x5gpN τ) : ra_C (g_Gs n f) g_sh 0 (d + 1) 50 [.index (172), ra_I x0] σ (fun r9 s => r9 = .inl (some (ra_I (x5gpS τ x0))) ∧ s = σ) := by
  refine ra_enter (nn := 0) mt_50 rfl (Nat.le_of_ble_eq_true rfl) rfl (fun h => absurd h (by decide +kernel)) ?_
  have hg0 := hg
  obtain ⟨g3, gn, g11⟩ := hg0
  have gb := x5gf_b gn (g := x0) ⟨hi.1, by rw [gn.1]; exact hi.2⟩
  have gn1 := gn.1
  have grs := x5rs_g hW.1 gb.2
  have hwa := WF_a hW.1
  unfold WFa at hwa
  refine ra_load rfl rfl rfl rfl ?_
  refine ra_iflt rfl rfl hx0 (fun h1 => ?_) (fun h1 => ?_)
  · refine ra_iconst rfl ?_
    refine ra_goto rfl rfl ?_
    exact ra_ireturn rfl rfl ⟨(congrArg (fun z => Sum.inl (some (ra_I z))) (by exfalso; omega)), rfl⟩
  · refine ra_load rfl rfl rfl rfl ?_
    refine ra_load rfl rfl rfl rfl ?_
    refine ra_getR rfl lk_1_11 (Nat.zero_le _) sh_172 rfl ?_
    refine ra_alen rfl sh_173 rfl ?_
    refine ra_iclt rfl rfl hx0 (by first | omega | (unfold ra_in at *; omega)) (fun h2 => ?_) (fun h2 => ?_)
    · refine ra_load rfl rfl rfl rfl ?_
      refine ra_getR rfl lk_1_11 (Nat.zero_le _) sh_172 rfl ?_
      refine ra_load rfl rfl rfl rfl ?_
      refine ra_iaload rfl sh_173 rfl (by decide) (by first | omega | (unfold ra_in at *; omega)) (by first | omega | (unfold ra_in at *; omega)) ?_
      have hr3 : ra_in (ra_g σ (173) x0.toNat) := (ra_in_g _ _ _)
      exact ra_ireturn rfl rfl ⟨(congrArg (fun z => Sum.inl (some (ra_I z))) gb.1.1), rfl⟩
    · refine ra_iconst rfl ?_
      refine ra_goto rfl rfl ?_
      exact ra_ireturn rfl rfl ⟨(congrArg (fun z => Sum.inl (some (ra_I z))) (by exfalso; omega)), rfl⟩
theorem s5_51 {n : Nat} {f : Nat → Int32} {d : Nat} {x0 : Int} {σ : ra_V} (hx0 : ra_in x0) (hW : x5W2 τ) (hg : x5GFC τ σ) (hi : 0 ≤ x0 ∧ x0 < x5gpN τ) : ra_C (g_Gs n f) g_sh 0 (d + 1) 51 [.index (172), ra_I x0] σ (fun r9 s => r9 = .inl (some (ra_I (x5gpZ τ x0))) ∧ s = σ) := by
  refine ra_enter (nn := 0) mt_51 rfl (Nat.le_of_ble_eq_true rfl) rfl (fun h => absurd h (by decide +kernel)) ?_
  have hg0 := hg
  obtain ⟨g3, gn, g11⟩ := hg0
  have gb := x5gf_b gn (g := x0) ⟨hi.1, by rw [gn.1]; exact hi.2⟩
  have gn1 := gn.1
  have grs := x5rs_g hW.1 gb.2
  have hwa := WF_a hW.1
  unfold WFa at hwa
  refine ra_load rfl rfl rfl rfl ?_
  refine ra_iflt rfl rfl hx0 (fun h1 => ?_) (fun h1 => ?_)
  · refine ra_iconst rfl ?_
    refine ra_goto rfl rfl ?_
    exact ra_ireturn rfl rfl ⟨(congrArg (fun z => Sum.inl (some (ra_I z))) (by exfalso; omega)), rfl⟩
  · refine ra_load rfl rfl rfl rfl ?_
    refine ra_load rfl rfl rfl rfl ?_
    refine ra_getR rfl lk_1_15 (Nat.zero_le _) sh_172 rfl ?_
    refine ra_alen rfl sh_174 rfl ?_
    refine ra_iclt rfl rfl hx0 (by first | omega | (unfold ra_in at *; omega)) (fun h2 => ?_) (fun h2 => ?_)
    · refine ra_load rfl rfl rfl rfl ?_
      refine ra_getR rfl lk_1_15 (Nat.zero_le _) sh_172 rfl ?_
      refine ra_load rfl rfl rfl rfl ?_
      refine ra_iaload rfl sh_174 rfl (by decide) (by first | omega | (unfold ra_in at *; omega)) (by first | omega | (unfold ra_in at *; omega)) ?_
      have hr3 : ra_in (ra_g σ (174) x0.toNat) := (ra_in_g _ _ _)
      exact ra_ireturn rfl rfl ⟨(congrArg (fun z => Sum.inl (some (ra_I z))) gb.1.2), rfl⟩
    · refine ra_iconst rfl ?_
      refine ra_goto rfl rfl ?_
      exact ra_ireturn rfl rfl ⟨(congrArg (fun z => Sum.inl (some (ra_I z))) (by exfalso; omega)), rfl⟩
theorem s5_52 {n : Nat} {f : Nat → Int32} {d : Nat} {x0 : Int} {σ : ra_V} (hx0 : ra_in x0) (hW : x5W2 τ) (hg : x5GFC τ σ) (hi : 0 ≤ x0 ∧ x0 < x5gpN τ) : ra_C (g_Gs n f) g_sh 0 (d + 2) 52 [.index (172), ra_I x0] σ (fun r9 s => r9 = .inl (some (ra_I (x5rsG τ x0))) ∧ s = σ) := by
  refine ra_enter (nn := 0) mt_52 rfl (Nat.le_of_ble_eq_true rfl) rfl (fun h => absurd h (by decide +kernel)) ?_
  have hg0 := hg
  obtain ⟨g3, gn, g11⟩ := hg0
  have gb := x5gf_b gn (g := x0) ⟨hi.1, by rw [gn.1]; exact hi.2⟩
  have gn1 := gn.1
  have grs := x5rs_g hW.1 gb.2
  have hwa := WF_a hW.1
  unfold WFa at hwa
  refine ra_load rfl rfl rfl rfl ?_
  refine ra_load rfl rfl rfl rfl ?_
  refine ra_cTp (s5_50 hx0 (by first | assumption | rfl | omega) (by first | assumption | rfl | omega) (by first | assumption | rfl | omega)) rfl (ct_50 rfl lk_1_46 (Or.inl rfl) sh_172 (Nat.le_of_ble_eq_true rfl)) ?_
  have hr2 : ra_in (x5gpS τ x0) := (x5gs_in (by first | assumption | rfl | omega) (by first | assumption | rfl | omega) (by first | assumption | rfl | omega))
  refine ra_load rfl rfl rfl rfl ?_
  refine ra_getI rfl lk_1_27 (Nat.zero_le _) sh_172 rfl ?_
  rw [show (ra_g σ (172) 3) = ra_g τ 180 3 from g3]
  have hr3 : ra_in (ra_g τ 180 3) := (ra_in_g _ _ _)
  refine ra_cTp (s5_186 hr2 hr3 (by omega)) rfl (ct_186 rfl lk_1_49 (Or.inr ⟨rfl, rfl⟩) (Nat.le_of_ble_eq_true rfl)) ?_
  have hr5 : ra_in (((x5gpS τ x0) + (ra_g τ 180 3) - 1).tdiv (ra_g τ 180 3) * (ra_g τ 180 3)) := (x5rup_in (by omega))
  exact ra_ireturn rfl rfl ⟨(congrArg (fun z => Sum.inl (some (ra_I z))) rfl), rfl⟩
theorem s5_187 {n : Nat} {f : Nat → Int32} {d : Nat} {x0 : Int} {x1 : Int} {x2 : Int} {σ : ra_V} (hx0 : ra_in x0) (hx1 : ra_in x1) (hx2 : ra_in x2) (hp : 0 ≤ x0 ∧ x0 ≤ 100000 ∧ 1 ≤ x2 ∧ x2 ≤ 1000) (hp1 : 0 ≤ x1 ∧ x1 ≤ 100000) : ra_C (g_Gs n f) g_sh 0 (d + 2) 187 [ra_I x0, ra_I x1, ra_I x2] σ (fun r9 s => r9 = .inl (some (ra_I (max 0 (x1 - (x0 + x2 - 1).tdiv x2 * x2)))) ∧ s = σ) := by
  refine ra_enter (nn := 0) mt_187 rfl (Nat.le_of_ble_eq_true rfl) rfl (fun h => absurd h (by decide +kernel)) ?_
  have hru := up_b (a := x0) (m := x2) hp.1 hp.2.2.1
  refine ra_iconst rfl ?_
  refine ra_load rfl rfl rfl rfl ?_
  refine ra_load rfl rfl rfl rfl ?_
  refine ra_load rfl rfl rfl rfl ?_
  refine ra_cTp (s5_186 hx0 hx2 (by first | assumption | rfl | omega)) rfl (ct_186 rfl lk_7_286 (Or.inl rfl) (Nat.le_of_ble_eq_true rfl)) ?_
  have hr2 : ra_in ((x0 + x2 - 1).tdiv x2 * x2) := (x5rup_in (by first | assumption | rfl | omega))
  refine ra_isub rfl ?_
  refine ra_max rfl lk_7_461 (by first | omega | (unfold ra_in at *; omega)) (by first | omega | (unfold ra_in at *; omega)) (Nat.le_of_ble_eq_true rfl) ?_
  exact ra_ireturn rfl rfl ⟨(congrArg (fun z => Sum.inl (some (ra_I z))) rfl), rfl⟩
theorem s5_53 {n : Nat} {f : Nat → Int32} {d : Nat} {x0 : Int} {σ : ra_V} (hx0 : ra_in x0) (hW : x5W2 τ) (hg : x5GFC τ σ) (hi : 0 ≤ x0 ∧ x0 < x5gpN τ) : ra_C (g_Gs n f) g_sh 0 (d + 3) 53 [.index (172), ra_I x0] σ (fun r9 s => r9 = .inl (some (ra_I (x5rmG τ x0))) ∧ s = σ) := by
  refine ra_enter (nn := 0) mt_53 rfl (Nat.le_of_ble_eq_true rfl) rfl (fun h => absurd h (by decide +kernel)) ?_
  have hg0 := hg
  obtain ⟨g3, gn, g11⟩ := hg0
  have gb := x5gf_b gn (g := x0) ⟨hi.1, by rw [gn.1]; exact hi.2⟩
  have gn1 := gn.1
  have grs := x5rs_g hW.1 gb.2
  have hwa := WF_a hW.1
  unfold WFa at hwa
  refine ra_load rfl rfl rfl rfl ?_
  refine ra_load rfl rfl rfl rfl ?_
  refine ra_cTp (s5_50 hx0 (by first | assumption | rfl | omega) (by first | assumption | rfl | omega) (by first | assumption | rfl | omega)) rfl (ct_50 rfl lk_1_46 (Or.inl rfl) sh_172 (Nat.le_of_ble_eq_true rfl)) ?_
  have hr2 : ra_in (x5gpS τ x0) := (x5gs_in (by first | assumption | rfl | omega) (by first | assumption | rfl | omega) (by first | assumption | rfl | omega))
  refine ra_load rfl rfl rfl rfl ?_
  refine ra_load rfl rfl rfl rfl ?_
  refine ra_cTp (s5_50 hx0 (by first | assumption | rfl | omega) (by first | assumption | rfl | omega) (by first | assumption | rfl | omega)) rfl (ct_50 rfl lk_1_46 (Or.inl rfl) sh_172 (Nat.le_of_ble_eq_true rfl)) ?_
  have hr4 : ra_in (x5gpS τ x0) := (x5gs_in (by first | assumption | rfl | omega) (by first | assumption | rfl | omega) (by first | assumption | rfl | omega))
  refine ra_load rfl rfl rfl rfl ?_
  refine ra_load rfl rfl rfl rfl ?_
  refine ra_cTp (s5_51 hx0 (by first | assumption | rfl | omega) (by first | assumption | rfl | omega) (by first | assumption | rfl | omega)) rfl (ct_51 rfl lk_1_53 (Or.inl rfl) sh_172 (Nat.le_of_ble_eq_true rfl)) ?_
  have hr6 : ra_in (x5gpZ τ x0) := (x5gz_in (by first | assumption | rfl | omega) (by first | assumption | rfl | omega) (by first | assumption | rfl | omega))
  refine ra_iadd rfl ?_
  refine ra_load rfl rfl rfl rfl ?_
  refine ra_getI rfl lk_1_27 (Nat.zero_le _) sh_172 rfl ?_
  rw [show (ra_g σ (172) 3) = ra_g τ 180 3 from g3]
  have hr7 : ra_in (ra_g τ 180 3) := (ra_in_g _ _ _)
  refine ra_cTp (s5_187 hr2 (by first | omega | (unfold ra_in at *; omega)) hr7 (by omega) (by omega)) rfl (ct_187 rfl lk_1_56 (Or.inr ⟨rfl, rfl⟩) (Nat.le_of_ble_eq_true rfl)) ?_
  have hr9 : ra_in (max 0 (((x5gpS τ x0) + (x5gpZ τ x0)) - ((x5gpS τ x0) + (ra_g τ 180 3) - 1).tdiv (ra_g τ 180 3) * (ra_g τ 180 3))) := (x5rbw_in ((by omega)) ((by omega)))
  exact ra_ireturn rfl rfl ⟨(congrArg (fun z => Sum.inl (some (ra_I z))) rfl), rfl⟩
theorem s5_60 {n : Nat} {f : Nat → Int32} {d : Nat} {x0 : Int} {x1 : Int} {x2 : Int} {σ : ra_V} (hx0 : ra_in x0) (hx1 : ra_in x1) (hx2 : ra_in x2) (hW : x5W2 τ) (hg : x5GFC τ σ) (hi : 0 ≤ x0 ∧ x0 < x5gpN τ) (hi1 : 0 ≤ x1 ∧ x1 < x5gpN τ) : ra_C (g_Gs n f) g_sh 0 (d + 4) 60 [.index (172), ra_I x0, ra_I x1, ra_I x2] σ (fun r9 s => (∃ z : Int, (z = 0 ∨ z = 1) ∧ (z = 1 ↔ ((x2 = 1 ∧ x5rmG τ x0 < x5rmG τ x1) ∨ (x2 = 2 ∧ x5rmG τ x1 < x5rmG τ x0))) ∧ r9 = .inl (some (ra_I z))) ∧ s = σ) := by
  refine ra_enter (nn := 0) mt_60 rfl (Nat.le_of_ble_eq_true rfl) rfl (fun h => absurd h (by decide +kernel)) ?_
  refine ra_load rfl rfl rfl rfl ?_
  refine ra_iconst rfl ?_
  refine ra_icne rfl rfl hx2 (by first | omega | (unfold ra_in at *; omega)) (fun h1 => ?_) (fun h1 => ?_)
  · refine ra_load rfl rfl rfl rfl ?_
    refine ra_iconst rfl ?_
    refine ra_icne rfl rfl hx2 (by first | omega | (unfold ra_in at *; omega)) (fun h2 => ?_) (fun h2 => ?_)
    · refine ra_iconst rfl ?_
      exact ra_ireturn rfl (ra_okB (Or.inl rfl)) ⟨⟨_, (Or.inl rfl), (by constructor <;> intro q <;> omega), rfl⟩, rfl⟩
    · refine ra_load rfl rfl rfl rfl ?_
      refine ra_load rfl rfl rfl rfl ?_
      refine ra_cTp (s5_53 hx0 (by first | assumption | rfl | omega) (by first | assumption | rfl | omega) hi) rfl (ct_53 rfl lk_1_60 (Or.inl rfl) sh_172 (Nat.le_of_ble_eq_true rfl)) ?_
      have hr4 : ra_in (x5rmG τ x0) := (x5gm_in (by first | assumption | rfl | omega) (by first | assumption | rfl | omega) hi)
      refine ra_load rfl rfl rfl rfl ?_
      refine ra_load rfl rfl rfl rfl ?_
      refine ra_cTp (s5_53 hx1 (by first | assumption | rfl | omega) (by first | assumption | rfl | omega) hi1) rfl (ct_53 rfl lk_1_60 (Or.inl rfl) sh_172 (Nat.le_of_ble_eq_true rfl)) ?_
      have hr6 : ra_in (x5rmG τ x1) := (x5gm_in (by first | assumption | rfl | omega) (by first | assumption | rfl | omega) hi1)
      refine ra_icle rfl rfl hr4 hr6 (fun h7 => ?_) (fun h7 => ?_)
      · refine ra_iconst rfl ?_
        exact ra_ireturn rfl (ra_okB (Or.inl rfl)) ⟨⟨_, (Or.inl rfl), (by constructor <;> intro q <;> omega), rfl⟩, rfl⟩
      · refine ra_iconst rfl ?_
        refine ra_goto rfl rfl ?_
        exact ra_ireturn rfl (ra_okB (Or.inr rfl)) ⟨⟨_, (Or.inr rfl), (by constructor <;> intro q <;> omega), rfl⟩, rfl⟩
  · refine ra_load rfl rfl rfl rfl ?_
    refine ra_load rfl rfl rfl rfl ?_
    refine ra_cTp (s5_53 hx0 (by first | assumption | rfl | omega) (by first | assumption | rfl | omega) hi) rfl (ct_53 rfl lk_1_60 (Or.inl rfl) sh_172 (Nat.le_of_ble_eq_true rfl)) ?_
    have hr9 : ra_in (x5rmG τ x0) := (x5gm_in (by first | assumption | rfl | omega) (by first | assumption | rfl | omega) hi)
    refine ra_load rfl rfl rfl rfl ?_
    refine ra_load rfl rfl rfl rfl ?_
    refine ra_cTp (s5_53 hx1 (by first | assumption | rfl | omega) (by first | assumption | rfl | omega) hi1) rfl (ct_53 rfl lk_1_60 (Or.inl rfl) sh_172 (Nat.le_of_ble_eq_true rfl)) ?_
    have hr11 : ra_in (x5rmG τ x1) := (x5gm_in (by first | assumption | rfl | omega) (by first | assumption | rfl | omega) hi1)
    refine ra_iclt rfl rfl hr9 hr11 (fun h12 => ?_) (fun h12 => ?_)
    · refine ra_iconst rfl ?_
      refine ra_goto rfl rfl ?_
      exact ra_ireturn rfl (ra_okB (Or.inr rfl)) ⟨⟨_, (Or.inr rfl), (by constructor <;> intro q <;> omega), rfl⟩, rfl⟩
    · refine ra_load rfl rfl rfl rfl ?_
      refine ra_iconst rfl ?_
      refine ra_icne rfl rfl hx2 (by first | omega | (unfold ra_in at *; omega)) (fun h13 => ?_) (fun h13 => ?_)
      · refine ra_iconst rfl ?_
        exact ra_ireturn rfl (ra_okB (Or.inl rfl)) ⟨⟨_, (Or.inl rfl), (by constructor <;> intro q <;> omega), rfl⟩, rfl⟩
      · refine ra_load rfl rfl rfl rfl ?_
        refine ra_load rfl rfl rfl rfl ?_
        refine ra_cTp (s5_53 hx0 (by first | assumption | rfl | omega) (by first | assumption | rfl | omega) hi) rfl (ct_53 rfl lk_1_60 (Or.inl rfl) sh_172 (Nat.le_of_ble_eq_true rfl)) ?_
        have hr15 : ra_in (x5rmG τ x0) := (x5gm_in (by first | assumption | rfl | omega) (by first | assumption | rfl | omega) hi)
        refine ra_load rfl rfl rfl rfl ?_
        refine ra_load rfl rfl rfl rfl ?_
        refine ra_cTp (s5_53 hx1 (by first | assumption | rfl | omega) (by first | assumption | rfl | omega) hi1) rfl (ct_53 rfl lk_1_60 (Or.inl rfl) sh_172 (Nat.le_of_ble_eq_true rfl)) ?_
        have hr17 : ra_in (x5rmG τ x1) := (x5gm_in (by first | assumption | rfl | omega) (by first | assumption | rfl | omega) hi1)
        refine ra_icle rfl rfl hr15 hr17 (fun h18 => ?_) (fun h18 => ?_)
        · refine ra_iconst rfl ?_
          exact ra_ireturn rfl (ra_okB (Or.inl rfl)) ⟨⟨_, (Or.inl rfl), (by constructor <;> intro q <;> omega), rfl⟩, rfl⟩
        · refine ra_iconst rfl ?_
          refine ra_goto rfl rfl ?_
          exact ra_ireturn rfl (ra_okB (Or.inr rfl)) ⟨⟨_, (Or.inr rfl), (by constructor <;> intro q <;> omega), rfl⟩, rfl⟩
theorem l5_59_5 {n : Nat} {f : Nat → Int32} {d : Nat} {x0 : Int} {x1 : Int} {σ : ra_V} (hx0 : ra_in x0) (hx1 : ra_in x1) (hW : x5W2 τ) (hg : x5GFC τ σ) : ∀ (nn : Nat) (v3 : Int) (v4 : Int) (hv3_0 : v3 = x5fbG τ x0 x1 v4.toNat) (hv4_0 : 0 ≤ v4 ∧ v4 ≤ 300) (hv4_1 : x0 ≤ 0 → v4 = 0) (hv4_2 : v4 ≤ x5gpN τ) (hm : ((300 - v4 : Int)).toNat < nn), ra_P (g_Gs n f) g_sh 0 (d + 4) g_m_X1_startFor 5 [some (.index (172)), some (ra_I x0), some (ra_I x1), some (ra_I v3), some (ra_I v4)] [] σ (fun r9 s => r9 = .inl (some (ra_I (x5fitF τ x0 x1))) ∧ s = σ) := by
  intro nn
  induction nn with
  | zero => intro v3 v4 hv3_0 hv4_0 hv4_1 hv4_2 hm; exact absurd hm (Nat.not_lt_zero _)
  | succ nn ih =>
    intro v3 v4 hv3_0 hv4_0 hv4_1 hv4_2 hm
    have hgn := hg.2.1.1
    have hgb := hg.2.1.2.1
    have hfb := x5fbG_b (τ := τ) (size := x0) (rule := x1) v4.toNat
    rw [← hv3_0] at hfb
    refine ra_load rfl rfl rfl rfl ?_
    refine ra_ifle rfl rfl hx0 (fun h1 => ?_) (fun h1 => ?_)
    · refine ra_load rfl rfl rfl rfl ?_
      refine ra_iconst rfl ?_
      refine ra_icne rfl rfl (by first | omega | (unfold ra_in at *; omega)) (by first | omega | (unfold ra_in at *; omega)) (fun h2 => ?_) (fun h2 => ?_)
      · refine ra_load rfl rfl rfl rfl ?_
        refine ra_load rfl rfl rfl rfl ?_
        refine ra_cTp (s5_52 (by first | omega | (unfold ra_in at *; omega)) (by first | assumption | rfl | omega) (by first | assumption | rfl | omega) ⟨by omega, by omega⟩) rfl (ct_52 rfl lk_1_76 (Or.inl rfl) sh_172 (Nat.le_of_ble_eq_true rfl)) ?_
        have hr4 : ra_in (x5rsG τ v3) := (x5gr_in (by first | assumption | rfl | omega) (by first | assumption | rfl | omega) ⟨by omega, by omega⟩)
        exact ra_ireturn rfl rfl ⟨(congrArg (fun z => Sum.inl (some (ra_I z))) (by rw [hv3_0, (show v4.toNat = (x5gpN τ).toNat by omega)]; exact x5fit_y (by omega) (by rw [← (show v4.toNat = (x5gpN τ).toNat by omega), ← hv3_0]; omega))), rfl⟩
      · refine ra_iconst rfl ?_
        refine ra_goto rfl rfl ?_
        exact ra_ireturn rfl rfl ⟨(congrArg (fun z => Sum.inl (some (ra_I z))) (by by_cases c9 : x0 < 1; exact x5fit_0 c9; exact x5fit_n c9 (by rw [← (show v4.toNat = (x5gpN τ).toNat by omega), ← hv3_0]; omega))), rfl⟩
    · refine ra_load rfl rfl rfl rfl ?_
      refine ra_load rfl rfl rfl rfl ?_
      refine ra_getI rfl lk_1_18 (Nat.zero_le _) sh_172 rfl ?_
      have hr5 : ra_in (ra_g σ (172) 2) := (ra_in_g _ _ _)
      refine ra_icge rfl rfl (by first | omega | (unfold ra_in at *; omega)) hr5 (fun h6 => ?_) (fun h6 => ?_)
      · refine ra_load rfl rfl rfl rfl ?_
        refine ra_iconst rfl ?_
        refine ra_icne rfl rfl (by first | omega | (unfold ra_in at *; omega)) (by first | omega | (unfold ra_in at *; omega)) (fun h7 => ?_) (fun h7 => ?_)
        · refine ra_load rfl rfl rfl rfl ?_
          refine ra_load rfl rfl rfl rfl ?_
          refine ra_cTp (s5_52 (by first | omega | (unfold ra_in at *; omega)) (by first | assumption | rfl | omega) (by first | assumption | rfl | omega) ⟨by omega, by omega⟩) rfl (ct_52 rfl lk_1_76 (Or.inl rfl) sh_172 (Nat.le_of_ble_eq_true rfl)) ?_
          have hr9 : ra_in (x5rsG τ v3) := (x5gr_in (by first | assumption | rfl | omega) (by first | assumption | rfl | omega) ⟨by omega, by omega⟩)
          exact ra_ireturn rfl rfl ⟨(congrArg (fun z => Sum.inl (some (ra_I z))) (by rw [hv3_0, (show v4.toNat = (x5gpN τ).toNat by omega)]; exact x5fit_y (by omega) (by rw [← (show v4.toNat = (x5gpN τ).toNat by omega), ← hv3_0]; omega))), rfl⟩
        · refine ra_iconst rfl ?_
          refine ra_goto rfl rfl ?_
          exact ra_ireturn rfl rfl ⟨(congrArg (fun z => Sum.inl (some (ra_I z))) (by by_cases c9 : x0 < 1; exact x5fit_0 c9; exact x5fit_n c9 (by rw [← (show v4.toNat = (x5gpN τ).toNat by omega), ← hv3_0]; omega))), rfl⟩
      · refine ra_load rfl rfl rfl rfl ?_
        refine ra_load rfl rfl rfl rfl ?_
        refine ra_cTp (s5_53 (by first | omega | (unfold ra_in at *; omega)) (by first | assumption | rfl | omega) (by first | assumption | rfl | omega) ⟨by omega, by omega⟩) rfl (ct_53 rfl lk_1_60 (Or.inl rfl) sh_172 (Nat.le_of_ble_eq_true rfl)) ?_
        have hr11 : ra_in (x5rmG τ v4) := (x5gm_in (by first | assumption | rfl | omega) (by first | assumption | rfl | omega) ⟨by omega, by omega⟩)
        refine ra_load rfl rfl rfl rfl ?_
        refine ra_iclt rfl rfl hr11 hx0 (fun h12 => ?_) (fun h12 => ?_)
        · refine ra_iinc (L' := [_, _, _, _, _]) rfl rfl (Nat.le_of_ble_eq_true rfl) rfl ?_
          refine ra_goto rfl rfl ?_
          exact ra_weak (by repeat' constructor) (ih v3 (v4 + 1) (by rw [show (v4 + 1).toNat = v4.toNat + 1 by omega]; have e9 := (show ((v4.toNat : Nat) : Int) = v4 by omega); refine Eq.trans hv3_0 (x5fbG_n (by rw [e9, ← hv3_0]; omega)).symm) (by first | omega | (unfold ra_in at *; omega)) (by first | omega | (unfold ra_in at *; omega)) (by first | omega | (unfold ra_in at *; omega)) (by first | omega | (unfold ra_in at *; omega)))
        · refine ra_load rfl rfl rfl rfl ?_
          refine ra_iconst rfl ?_
          refine ra_iceq rfl rfl (by first | omega | (unfold ra_in at *; omega)) (by first | omega | (unfold ra_in at *; omega)) (fun h13 => ?_) (fun h13 => ?_)
          · refine ra_load rfl rfl rfl rfl ?_
            refine ra_store (L' := [_, _, _, _, _]) rfl rfl rfl (Nat.le_of_ble_eq_true rfl) rfl ?_
            refine ra_iinc (L' := [_, _, _, _, _]) rfl rfl (Nat.le_of_ble_eq_true rfl) rfl ?_
            refine ra_goto rfl rfl ?_
            exact ra_weak (by repeat' constructor) (ih v4 (v4 + 1) (by rw [show (v4 + 1).toNat = v4.toNat + 1 by omega]; have e9 := (show ((v4.toNat : Nat) : Int) = v4 by omega); refine Eq.trans ?_ (x5fbG_y (by rw [e9]; omega) (by rw [e9, ← hv3_0]; omega)).symm; omega) (by first | omega | (unfold ra_in at *; omega)) (by first | omega | (unfold ra_in at *; omega)) (by first | omega | (unfold ra_in at *; omega)) (by first | omega | (unfold ra_in at *; omega)))
          · refine ra_load rfl rfl rfl rfl ?_
            refine ra_load rfl rfl rfl rfl ?_
            refine ra_load rfl rfl rfl rfl ?_
            refine ra_load rfl rfl rfl rfl ?_
            refine ra_cQPp (s5_60 (by first | omega | (unfold ra_in at *; omega)) (by first | omega | (unfold ra_in at *; omega)) hx1 (by first | assumption | rfl | omega) (by first | assumption | rfl | omega) ⟨by omega, by omega⟩ ⟨by omega, by omega⟩) rfl (ct_60 rfl lk_1_72 (Or.inl rfl) sh_172 (Nat.le_of_ble_eq_true rfl)) (fun z15 hz15 hz15p => ?_)
            refine ra_ifeq rfl rfl (ra_in01 hz15) (fun h16 => ?_) (fun h16 => ?_)
            · refine ra_iinc (L' := [_, _, _, _, _]) rfl rfl (Nat.le_of_ble_eq_true rfl) rfl ?_
              refine ra_goto rfl rfl ?_
              exact ra_weak (by repeat' constructor) (ih v3 (v4 + 1) (by rw [show (v4 + 1).toNat = v4.toNat + 1 by omega]; have q8 := hz15p; have e9 := (show ((v4.toNat : Nat) : Int) = v4 by omega); refine Eq.trans hv3_0 (x5fbG_n (by rw [e9, ← hv3_0]; omega)).symm) (by first | omega | (unfold ra_in at *; omega)) (by first | omega | (unfold ra_in at *; omega)) (by first | omega | (unfold ra_in at *; omega)) (by first | omega | (unfold ra_in at *; omega)))
            · refine ra_load rfl rfl rfl rfl ?_
              refine ra_store (L' := [_, _, _, _, _]) rfl rfl rfl (Nat.le_of_ble_eq_true rfl) rfl ?_
              refine ra_iinc (L' := [_, _, _, _, _]) rfl rfl (Nat.le_of_ble_eq_true rfl) rfl ?_
              refine ra_goto rfl rfl ?_
              exact ra_weak (by repeat' constructor) (ih v4 (v4 + 1) (by rw [show (v4 + 1).toNat = v4.toNat + 1 by omega]; have q8 := hz15p; have e9 := (show ((v4.toNat : Nat) : Int) = v4 by omega); refine Eq.trans ?_ (x5fbG_y (by rw [e9]; omega) (by rw [e9, ← hv3_0]; omega)).symm; omega) (by first | omega | (unfold ra_in at *; omega)) (by first | omega | (unfold ra_in at *; omega)) (by first | omega | (unfold ra_in at *; omega)) (by first | omega | (unfold ra_in at *; omega)))
theorem s5_59 {n : Nat} {f : Nat → Int32} {d : Nat} {x0 : Int} {x1 : Int} {σ : ra_V} (hx0 : ra_in x0) (hx1 : ra_in x1) (hW : x5W2 τ) (hg : x5GFC τ σ) : ra_C (g_Gs n f) g_sh 0 (d + 5) 59 [.index (172), ra_I x0, ra_I x1] σ (fun r9 s => r9 = .inl (some (ra_I (x5fitF τ x0 x1))) ∧ s = σ) := by
  refine ra_enter (nn := 2) mt_59 rfl (Nat.le_of_ble_eq_true rfl) rfl (fun h => absurd h (by decide +kernel)) ?_
  have hgn := hg.2.1.1
  have hgb := hg.2.1.2.1
  refine ra_iconst rfl ?_
  refine ra_store (L' := [_, _, _, _, _]) rfl rfl rfl (Nat.le_of_ble_eq_true rfl) rfl ?_
  refine ra_iconst rfl ?_
  refine ra_store (L' := [_, _, _, _, _]) rfl rfl rfl (Nat.le_of_ble_eq_true rfl) rfl ?_
  exact ra_weak (by repeat' constructor) (l5_59_5 hx0 hx1 hW hg _ (-1) (0) rfl (by first | omega | (unfold ra_in at *; omega)) (by first | omega | (unfold ra_in at *; omega)) (by first | omega | (unfold ra_in at *; omega)) (Nat.lt_succ_self _))
end
