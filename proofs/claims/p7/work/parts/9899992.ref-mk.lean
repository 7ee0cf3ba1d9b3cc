/-! T5: what the reference changes (printed by wip/gen/r6.py) -/
section
theorem s5_197 {n : Nat} {f : Nat → Int32} {d : Nat}  {σ : ra_V} (hw : WF σ) (hp : PW σ) : ra_C (g_Gs n f) g_sh 0 (d + 2) 197 [.index (179)] σ (fun r9 s => rV r9 ∧ Fr (179) (185) σ s ∧ s (180) = σ (180) ∧ s (181) = σ (181) ∧ s (182) = σ (182) ∧ s (183) = σ (183) ∧ (∀ a, a ≠ 5 → ra_g s 179 a = ra_g σ 179 a) ∧ PW s ∧ x5PSH σ s) := by
  refine ra_enter (nn := 0) mt_197 rfl (Nat.le_of_ble_eq_true rfl) rfl (fun h => absurd h (by decide +kernel)) ?_
  have hp0 := hp.1
  refine ra_load rfl rfl rfl rfl ?_
  refine ra_getI rfl lk_8_54 (Nat.zero_le _) sh_179 rfl ?_
  have hr1 : ra_in (ra_g σ (179) 5) := (ra_in_g _ _ _)
  refine ra_bipush rfl (by decide) ?_
  refine ra_icne rfl rfl hr1 (by first | omega | (unfold ra_in at *; omega)) (fun h2 => ?_) (fun h2 => ?_)
  · refine ra_load rfl rfl rfl rfl ?_
    refine ra_getR rfl lk_8_7 (Nat.zero_le _) sh_179 rfl ?_
    refine ra_iconst rfl ?_
    refine ra_load rfl rfl rfl rfl ?_
    refine ra_getR rfl lk_8_22 (Nat.zero_le _) sh_179 rfl ?_
    refine ra_sipush rfl (by decide) ?_
    refine ra_load rfl rfl rfl rfl ?_
    refine ra_getI rfl lk_8_54 (Nat.zero_le _) sh_179 rfl ?_
    have hr3 : ra_in (ra_g σ (179) 5) := (ra_in_g _ _ _)
    refine ra_imul rfl ?_
    refine ra_sipush rfl (by decide) ?_
    refine ra_cV (sp_195 sh_180 (by decide) (by first | omega | (unfold ra_in at *; omega)) sh_184 (by decide) (by first | omega | (unfold ra_in at *; omega)) (by first | omega | (unfold ra_in at *; omega)) (by first | assumption | rfl | omega) (by first | assumption | rfl | omega)) rfl (ct_195 rfl lk_8_57 (Or.inl rfl) (Nat.le_of_ble_eq_true rfl)) (fun s4 hs4 => ?_)
    obtain ⟨hf5, he6⟩ := hs4
    have hF7 := Fr_tr (lo := 179) (hi := 185) Fr_rf hf5 (by omega)
    have hk8 : s4 (179) = σ (179) := (hf5 (179) (by omega))
    have hk9 : s4 (180) = σ (180) := (hf5 (180) (by omega))
    have hk10 : s4 (181) = σ (181) := (hf5 (181) (by omega))
    have hk11 : s4 (182) = σ (182) := (hf5 (182) (by omega))
    have hk12 : s4 (183) = σ (183) := (hf5 (183) (by omega))
    refine ra_load rfl rfl rfl rfl ?_
    refine ra_dup rfl rfl ?_
    refine ra_getI rfl lk_8_54 (Nat.zero_le _) sh_179 rfl ?_
    rw [ra_gk hk8]
    have hr13 : ra_in (ra_g σ (179) 5) := (ra_in_g _ _ _)
    refine ra_iconst rfl ?_
    refine ra_iadd rfl ?_
    refine ra_putI rfl lk_8_54 (Nat.zero_le _) sh_179 rfl rfl ?_
    refine ra_newU (by first | omega | (unfold ra_in at *; omega)) (fun s14 hs14 hp15 hp15o => ?_)
    have hF16 := Fr_tr (lo := 179) (hi := 185) hF7 hs14 (by omega)
    have hk17 : s14 (180) = σ (180) := (hs14 (180) (by omega)).trans hk9
    have hk18 : s14 (181) = σ (181) := (hs14 (181) (by omega)).trans hk10
    have hk19 : s14 (182) = σ (182) := (hs14 (182) (by omega)).trans hk11
    have hk20 : s14 (183) = σ (183) := (hs14 (183) (by omega)).trans hk12
    exact ra_return rfl rfl ⟨rfl, ⟨hF16, hk17, hk18, hk19, hk20, (fun a h5 => ((hp15o a h5).trans (ra_gk (hf5 179 (by omega))))), (rem_b hw hp (by omega) he6 (by omega) (hs14 184 (by omega))), (x5psh_b hp.1 (by omega) rfl rfl rfl he6 (by omega) (hs14 184 (by omega)))⟩⟩
  · refine ra_load rfl rfl rfl rfl ?_
    refine ra_getR rfl lk_8_22 (Nat.zero_le _) sh_179 rfl ?_
    refine ra_sipush rfl (by decide) ?_
    refine ra_load rfl rfl rfl rfl ?_
    refine ra_getR rfl lk_8_22 (Nat.zero_le _) sh_179 rfl ?_
    refine ra_iconst rfl ?_
    refine ra_sipush rfl (by decide) ?_
    refine ra_cV (sp_195 sh_184 (by decide) (by first | omega | (unfold ra_in at *; omega)) sh_184 (by decide) (by first | omega | (unfold ra_in at *; omega)) (by first | omega | (unfold ra_in at *; omega)) (by first | assumption | rfl | omega) (by first | assumption | rfl | omega)) rfl (ct_195 rfl lk_8_57 (Or.inl rfl) (Nat.le_of_ble_eq_true rfl)) (fun s21 hs21 => ?_)
    obtain ⟨hf22, he23⟩ := hs21
    have hF24 := Fr_tr (lo := 179) (hi := 185) Fr_rf hf22 (by omega)
    have hk25 : s21 (179) = σ (179) := (hf22 (179) (by omega))
    have hk26 : s21 (180) = σ (180) := (hf22 (180) (by omega))
    have hk27 : s21 (181) = σ (181) := (hf22 (181) (by omega))
    have hk28 : s21 (182) = σ (182) := (hf22 (182) (by omega))
    have hk29 : s21 (183) = σ (183) := (hf22 (183) (by omega))
    refine ra_load rfl rfl rfl rfl ?_
    refine ra_dup rfl rfl ?_
    refine ra_getI rfl lk_8_54 (Nat.zero_le _) sh_179 rfl ?_
    rw [ra_gk hk25]
    have hr30 : ra_in (ra_g σ (179) 5) := (ra_in_g _ _ _)
    refine ra_iconst rfl ?_
    refine ra_isub rfl ?_
    refine ra_putI rfl lk_8_54 (Nat.zero_le _) sh_179 rfl rfl ?_
    refine ra_newU (by first | omega | (unfold ra_in at *; omega)) (fun s31 hs31 hp32 hp32o => ?_)
    have hF33 := Fr_tr (lo := 179) (hi := 185) hF24 hs31 (by omega)
    have hk34 : s31 (180) = σ (180) := (hs31 (180) (by omega)).trans hk26
    have hk35 : s31 (181) = σ (181) := (hs31 (181) (by omega)).trans hk27
    have hk36 : s31 (182) = σ (182) := (hs31 (182) (by omega)).trans hk28
    have hk37 : s31 (183) = σ (183) := (hs31 (183) (by omega)).trans hk29
    refine ra_load rfl rfl rfl rfl ?_
    refine ra_getR rfl lk_8_7 (Nat.zero_le _) sh_179 rfl ?_
    refine ra_iconst rfl ?_
    refine ra_load rfl rfl rfl rfl ?_
    refine ra_getR rfl lk_8_22 (Nat.zero_le _) sh_179 rfl ?_
    refine ra_sipush rfl (by decide) ?_
    refine ra_load rfl rfl rfl rfl ?_
    refine ra_getI rfl lk_8_54 (Nat.zero_le _) sh_179 rfl ?_
    have hr38 : ra_in (ra_g s31 (179) 5) := (ra_in_g _ _ _)
    refine ra_imul rfl ?_
    refine ra_sipush rfl (by decide) ?_
    refine ra_cV (sp_195 sh_180 (by decide) (by first | omega | (unfold ra_in at *; omega)) sh_184 (by decide) (by first | omega | (unfold ra_in at *; omega)) (by first | omega | (unfold ra_in at *; omega)) (by first | assumption | rfl | omega) (by first | assumption | rfl | omega)) rfl (ct_195 rfl lk_8_57 (Or.inl rfl) (Nat.le_of_ble_eq_true rfl)) (fun s39 hs39 => ?_)
    obtain ⟨hf40, he41⟩ := hs39
    have hF42 := Fr_tr (lo := 179) (hi := 185) hF33 hf40 (by omega)
    have hk43 : s39 (180) = σ (180) := (hf40 (180) (by omega)).trans hk34
    have hk44 : s39 (181) = σ (181) := (hf40 (181) (by omega)).trans hk35
    have hk45 : s39 (182) = σ (182) := (hf40 (182) (by omega)).trans hk36
    have hk46 : s39 (183) = σ (183) := (hf40 (183) (by omega)).trans hk37
    have hk47 : s39 (179) = s31 (179) := (hf40 (179) (by omega))
    refine ra_load rfl rfl rfl rfl ?_
    refine ra_dup rfl rfl ?_
    refine ra_getI rfl lk_8_54 (Nat.zero_le _) sh_179 rfl ?_
    rw [ra_gk hk47]
    have hr48 : ra_in (ra_g s31 (179) 5) := (ra_in_g _ _ _)
    refine ra_iconst rfl ?_
    refine ra_iadd rfl ?_
    refine ra_putI rfl lk_8_54 (Nat.zero_le _) sh_179 rfl rfl ?_
    refine ra_newU (by first | omega | (unfold ra_in at *; omega)) (fun s49 hs49 hp50 hp50o => ?_)
    have hF51 := Fr_tr (lo := 179) (hi := 185) hF42 hs49 (by omega)
    have hk52 : s49 (180) = σ (180) := (hs49 (180) (by omega)).trans hk43
    have hk53 : s49 (181) = σ (181) := (hs49 (181) (by omega)).trans hk44
    have hk54 : s49 (182) = σ (182) := (hs49 (182) (by omega)).trans hk45
    have hk55 : s49 (183) = σ (183) := (hs49 (183) (by omega)).trans hk46
    exact ra_return rfl rfl ⟨rfl, ⟨hF51, hk52, hk53, hk54, hk55, (fun a h5 => ((hp50o a h5).trans ((ra_gk (hf40 179 (by omega))).trans ((hp32o a h5).trans (ra_gk (hf22 179 (by omega))))))), (rem_a hw hp (by omega) he23 (hs31 184 (by omega)) ((hs31 180 (by omega)).trans (hf22 180 (by omega))) (by omega) he41 (by omega) (hs49 184 (by omega))), (x5psh_a (by omega) rfl rfl he23 (hs31 184 (by omega)) ((hs31 180 (by omega)).trans (hf22 180 (by omega))) (by omega) he41 (by omega) (hs49 184 (by omega)))⟩⟩
theorem l5_210_3 {n : Nat} {f : Nat → Int32} {d : Nat} {x0 : Int} {x1 : Int} {x2 : Int} {x3 : Int} {σ : ra_V} (hx0 : ra_in x0) (hx1 : ra_in x1) (hx2 : ra_in x2) (hx3 : ra_in x3) (hx : ∃ q, 0 ≤ q ∧ q < 8 ∧ wq σ q 0 ≠ 1) (hn : 0 ≤ x0 ∧ 1 ≤ x1 ∧ x0 + x1 ≤ 600) : ∀ (nn : Nat) (v5 : Int) (hv5_0 : 0 ≤ v5) (hv5_1 : ∀ r, 0 ≤ r → r < v5 → wq σ r 0 = 1) (hm : ((8 - v5 : Int)).toNat < nn), ra_P (g_Gs n f) g_sh 0 (d + 3) g_m_X8_makes 3 [some (.index (179)), some (ra_I x0), some (ra_I x1), some (ra_I x2), some (ra_I x3), some (ra_I v5)] [] σ (fun r9 s => (∃ z, ra_in z ∧ ((MKN σ s z x0 x1 x3) ∧ (z = x5nfr σ ∧ SC (x5mkV σ (x5nfr σ) x0 x1 x2 x3) s)) ∧ r9 = .inl (some (ra_I z))) ∧ Fr (180) (181) σ s) := by
  intro nn
  induction nn with
  | zero => intro v5 hv5_0 hv5_1 hm; exact absurd hm (Nat.not_lt_zero _)
  | succ nn ih =>
    intro v5 hv5_0 hv5_1 hm
    have hv8 : v5 < 8 := free_lt hx hv5_1
    refine ra_load rfl rfl rfl rfl ?_
    refine ra_load rfl rfl rfl rfl ?_
    refine ra_iconst rfl ?_
    refine ra_cTp (sp_200 (by first | omega | (unfold ra_in at *; omega)) (by first | omega | (unfold ra_in at *; omega)) (by first | assumption | rfl | omega)) rfl (ct_200 rfl lk_8_67 (Or.inl rfl) sh_179 (Nat.le_of_ble_eq_true rfl)) ?_
    have hr2 : ra_in (wq σ v5 (0)) := (ra_in_wq _ _ _)
    refine ra_iconst rfl ?_
    refine ra_icne rfl rfl hr2 (by first | omega | (unfold ra_in at *; omega)) (fun h3 => ?_) (fun h3 => ?_)
    · refine ra_load rfl rfl rfl rfl ?_
      refine ra_load rfl rfl rfl rfl ?_
      refine ra_iconst rfl ?_
      refine ra_iconst rfl ?_
      refine ra_cV (sp_201 (by first | omega | (unfold ra_in at *; omega)) (by first | omega | (unfold ra_in at *; omega)) (by first | omega | (unfold ra_in at *; omega)) (by first | assumption | rfl | omega)) rfl (ct_201 rfl lk_8_78 (Or.inl rfl) sh_179 (Nat.le_of_ble_eq_true rfl)) (fun s4 hs4 => ?_)
      obtain ⟨hf5, he6, he7⟩ := hs4
      have hF8 := Fr_tr (lo := 180) (hi := 181) Fr_rf hf5 (by omega)
      refine ra_load rfl rfl rfl rfl ?_
      refine ra_load rfl rfl rfl rfl ?_
      refine ra_iconst rfl ?_
      refine ra_load rfl rfl rfl rfl ?_
      refine ra_cV (sp_201 (by first | omega | (unfold ra_in at *; omega)) (by first | omega | (unfold ra_in at *; omega)) hx0 (by first | assumption | rfl | omega)) rfl (ct_201 rfl lk_8_78 (Or.inl rfl) sh_179 (Nat.le_of_ble_eq_true rfl)) (fun s9 hs9 => ?_)
      obtain ⟨hf10, he11, he12⟩ := hs9
      have hF13 := Fr_tr (lo := 180) (hi := 181) hF8 hf10 (by omega)
      refine ra_load rfl rfl rfl rfl ?_
      refine ra_load rfl rfl rfl rfl ?_
      refine ra_iconst rfl ?_
      refine ra_load rfl rfl rfl rfl ?_
      refine ra_cV (sp_201 (by first | omega | (unfold ra_in at *; omega)) (by first | omega | (unfold ra_in at *; omega)) hx1 (by first | assumption | rfl | omega)) rfl (ct_201 rfl lk_8_78 (Or.inl rfl) sh_179 (Nat.le_of_ble_eq_true rfl)) (fun s14 hs14 => ?_)
      obtain ⟨hf15, he16, he17⟩ := hs14
      have hF18 := Fr_tr (lo := 180) (hi := 181) hF13 hf15 (by omega)
      refine ra_load rfl rfl rfl rfl ?_
      refine ra_load rfl rfl rfl rfl ?_
      refine ra_iconst rfl ?_
      refine ra_load rfl rfl rfl rfl ?_
      refine ra_cV (sp_201 (by first | omega | (unfold ra_in at *; omega)) (by first | omega | (unfold ra_in at *; omega)) hx3 (by first | assumption | rfl | omega)) rfl (ct_201 rfl lk_8_78 (Or.inl rfl) sh_179 (Nat.le_of_ble_eq_true rfl)) (fun s19 hs19 => ?_)
      obtain ⟨hf20, he21, he22⟩ := hs19
      have hF23 := Fr_tr (lo := 180) (hi := 181) hF18 hf20 (by omega)
      refine ra_load rfl rfl rfl rfl ?_
      refine ra_load rfl rfl rfl rfl ?_
      refine ra_iconst rfl ?_
      refine ra_load rfl rfl rfl rfl ?_
      refine ra_cV (sp_201 (by first | omega | (unfold ra_in at *; omega)) (by first | omega | (unfold ra_in at *; omega)) hx2 (by first | assumption | rfl | omega)) rfl (ct_201 rfl lk_8_78 (Or.inl rfl) sh_179 (Nat.le_of_ble_eq_true rfl)) (fun s24 hs24 => ?_)
      obtain ⟨hf25, he26, he27⟩ := hs24
      have hF28 := Fr_tr (lo := 180) (hi := 181) hF23 hf25 (by omega)
      refine ra_load rfl rfl rfl rfl ?_
      refine ra_load rfl rfl rfl rfl ?_
      refine ra_iconst rfl ?_
      refine ra_iconst rfl ?_
      refine ra_cV (sp_201 (by first | omega | (unfold ra_in at *; omega)) (by first | omega | (unfold ra_in at *; omega)) (by first | omega | (unfold ra_in at *; omega)) (by first | assumption | rfl | omega)) rfl (ct_201 rfl lk_8_78 (Or.inl rfl) sh_179 (Nat.le_of_ble_eq_true rfl)) (fun s29 hs29 => ?_)
      obtain ⟨hf30, he31, he32⟩ := hs29
      have hF33 := Fr_tr (lo := 180) (hi := 181) hF28 hf30 (by omega)
      refine ra_load rfl rfl rfl rfl ?_
      refine ra_load rfl rfl rfl rfl ?_
      refine ra_bipush rfl (by decide) ?_
      refine ra_load rfl rfl rfl rfl ?_
      refine ra_getR rfl lk_8_7 (Nat.zero_le _) sh_179 rfl ?_
      refine ra_iconst rfl ?_
      refine ra_ialoadJ (j := 5) rfl sh_180 rfl (by decide) rfl (by decide) ?_
      rw [show (ra_g s29 (180) 5) = (ra_g σ (180) 5) from ((he32 5 (by omega)).trans ((he27 5 (by omega)).trans ((he22 5 (by omega)).trans ((he17 5 (by omega)).trans ((he12 5 (by omega)).trans (he7 5 (by omega)))))))]
      have hr34 : ra_in (ra_g σ (180) 5) := (by rw [← (show (ra_g s29 (180) 5) = (ra_g σ (180) 5) from ((he32 5 (by omega)).trans ((he27 5 (by omega)).trans ((he22 5 (by omega)).trans ((he17 5 (by omega)).trans ((he12 5 (by omega)).trans (he7 5 (by omega))))))))]; exact ra_in_g _ _ _)
      refine ra_cV (sp_201 (by first | omega | (unfold ra_in at *; omega)) (by first | omega | (unfold ra_in at *; omega)) hr34 (by first | assumption | rfl | omega)) rfl (ct_201 rfl lk_8_78 (Or.inl rfl) sh_179 (Nat.le_of_ble_eq_true rfl)) (fun s35 hs35 => ?_)
      obtain ⟨hf36, he37, he38⟩ := hs35
      have hF39 := Fr_tr (lo := 180) (hi := 181) hF33 hf36 (by omega)
      refine ra_load rfl rfl rfl rfl ?_
      refine ra_load rfl rfl rfl rfl ?_
      refine ra_bipush rfl (by decide) ?_
      refine ra_iconst rfl ?_
      refine ra_cV (sp_201 (by first | omega | (unfold ra_in at *; omega)) (by first | omega | (unfold ra_in at *; omega)) (by first | omega | (unfold ra_in at *; omega)) (by first | assumption | rfl | omega)) rfl (ct_201 rfl lk_8_78 (Or.inl rfl) sh_179 (Nat.le_of_ble_eq_true rfl)) (fun s40 hs40 => ?_)
      obtain ⟨hf41, he42, he43⟩ := hs40
      have hF44 := Fr_tr (lo := 180) (hi := 181) hF39 hf41 (by omega)
      refine ra_load rfl rfl rfl rfl ?_
      refine ra_getR rfl lk_8_7 (Nat.zero_le _) sh_179 rfl ?_
      refine ra_iconst rfl ?_
      refine ra_dup2 rfl rfl rfl ?_
      refine ra_ialoadJ (j := 5) rfl sh_180 rfl (by decide) rfl (by decide) ?_
      rw [show (ra_g s40 (180) 5) = (ra_g σ (180) 5) from ((he43 5 (by omega)).trans ((he38 5 (by omega)).trans ((he32 5 (by omega)).trans ((he27 5 (by omega)).trans ((he22 5 (by omega)).trans ((he17 5 (by omega)).trans ((he12 5 (by omega)).trans (he7 5 (by omega)))))))))]
      have hr45 : ra_in (ra_g σ (180) 5) := (by rw [← (show (ra_g s40 (180) 5) = (ra_g σ (180) 5) from ((he43 5 (by omega)).trans ((he38 5 (by omega)).trans ((he32 5 (by omega)).trans ((he27 5 (by omega)).trans ((he22 5 (by omega)).trans ((he17 5 (by omega)).trans ((he12 5 (by omega)).trans (he7 5 (by omega))))))))))]; exact ra_in_g _ _ _)
      refine ra_iconst rfl ?_
      refine ra_iadd rfl ?_
      refine x5wr_ ?_
      refine ra_iastoreJ (j := 5) rfl sh_180 rfl (by decide) rfl (by decide) ?_
      refine ra_newR (ra_w_in _) (fun s46 hs46 hs46v hs46o => ?_)
      have hF47 := Fr_tr (lo := 180) (hi := 181) hF44 hs46 (by omega)
      refine ra_load rfl rfl rfl rfl ?_
      refine ra_load rfl rfl rfl rfl ?_
      refine ra_iconst rfl ?_
      refine ra_cV (sp_209 (by first | omega | (unfold ra_in at *; omega)) (by first | omega | (unfold ra_in at *; omega)) (by first | assumption | rfl | omega) (by have := mk_chain (a := x0) (m := x1) (mn := x3) ⟨by omega, by omega, by omega⟩ he6 he7 he11 he12 he16 he17 he21 he22 he27 he32 he38 he43 hs46o SC_rf; obtain ⟨-, -, t1, t2, -⟩ := this; omega) (by first | assumption | rfl | omega)) rfl (ct_209 rfl lk_8_82 (Or.inl rfl) sh_179 (Nat.le_of_ble_eq_true rfl)) (fun s48 hs48 => ?_)
      obtain ⟨hf49, he50⟩ := hs48
      have hF51 := Fr_tr (lo := 180) (hi := 181) hF47 hf49 (by omega)
      refine ra_load rfl rfl rfl rfl ?_
      exact ra_ireturn rfl rfl ⟨⟨_, (by first | omega | (unfold ra_in at *; omega)), ⟨(mk_chain ⟨by omega, by omega, by omega⟩ he6 he7 he11 he12 he16 he17 he21 he22 he27 he32 he38 he43 hs46o he50), x5nfr_e ⟨by omega, by omega⟩ (by omega) hv5_1, by rw [← x5nfr_e (z := v5) ⟨by omega, by omega⟩ (by omega) hv5_1]; exact (SC_tr (x5sc_upw (x5sc_up (x5sc_up (x5sc_up (x5sc_up (x5sc_up (x5sc_up (x5sc_up (x5sc_up SC_rf he6 he7) he11 he12) he16 he17) he21 he22) he26 he27) he31 he32) (he37) he38) he42 he43) hs46v hs46o) he50)⟩, rfl⟩, hF51⟩
    · refine ra_iinc (L' := [_, _, _, _, _, _]) rfl rfl (Nat.le_of_ble_eq_true rfl) rfl ?_
      refine ra_goto rfl rfl ?_
      exact ra_weak (by repeat' constructor) (ih (v5 + 1) (by first | omega | (unfold ra_in at *; omega)) (fun r a b => if e : r = v5 then (by rw [e]; omega) else hv5_1 r a (by omega)) (by first | omega | (unfold ra_in at *; omega)))
theorem s5_210 {n : Nat} {f : Nat → Int32} {d : Nat} {x0 : Int} {x1 : Int} {x2 : Int} {x3 : Int} {σ : ra_V} (hx0 : ra_in x0) (hx1 : ra_in x1) (hx2 : ra_in x2) (hx3 : ra_in x3) (hx : ∃ q, 0 ≤ q ∧ q < 8 ∧ wq σ q 0 ≠ 1) (hn : 0 ≤ x0 ∧ 1 ≤ x1 ∧ x0 + x1 ≤ 600) : ra_C (g_Gs n f) g_sh 0 (d + 4) 210 [.index (179), ra_I x0, ra_I x1, ra_I x2, ra_I x3] σ (fun r9 s => (∃ z, ra_in z ∧ ((MKN σ s z x0 x1 x3) ∧ (z = x5nfr σ ∧ SC (x5mkV σ (x5nfr σ) x0 x1 x2 x3) s)) ∧ r9 = .inl (some (ra_I z))) ∧ Fr (180) (181) σ s) := by
  refine ra_enter (nn := 1) mt_210 rfl (Nat.le_of_ble_eq_true rfl) rfl (fun h => absurd h (by decide +kernel)) ?_
  refine ra_iconst rfl ?_
  refine ra_store (L' := [_, _, _, _, _, _]) rfl rfl rfl (Nat.le_of_ble_eq_true rfl) rfl ?_
  exact ra_weak (by repeat' constructor) (l5_210_3 hx0 hx1 hx2 hx3 hx hn _ (0) (by first | omega | (unfold ra_in at *; omega)) (fun r a b => by omega) (Nat.lt_succ_self _))
theorem s5_304 {n : Nat} {f : Nat → Int32} {d : Nat} {x0 : Int} {x1 : Int} {σ : ra_V} (hx0 : ra_in x0) (hx1 : ra_in x1) (hp : 0 ≤ x0 ∧ x0 < 8) (hn : 0 ≤ wq σ x0 1 ∧ wq σ x0 1 + x1 ≤ 600 ∧ 0 ≤ wq σ x0 2) : ra_C (g_Gs n f) g_sh 0 (d + 4) 304 [.index (179), ra_I x0, ra_I x1] σ (fun r9 s => rV r9 ∧ Fr (180) (181) σ s ∧ RSZ σ s x0 x1 ∧ SC (x5up σ (24 + 8 * x0 + 2).toNat x1) s) := by
  refine ra_enter (nn := 1) mt_304 rfl (Nat.le_of_ble_eq_true rfl) rfl (fun h => absurd h (by decide +kernel)) ?_
  refine ra_load rfl rfl rfl rfl ?_
  refine ra_load rfl rfl rfl rfl ?_
  refine ra_iconst rfl ?_
  refine ra_cTp (sp_200 hx0 (by first | omega | (unfold ra_in at *; omega)) (by first | assumption | rfl | omega)) rfl (ct_200 rfl lk_8_67 (Or.inl rfl) sh_179 (Nat.le_of_ble_eq_true rfl)) ?_
  have hr2 : ra_in (wq σ x0 (2)) := (ra_in_wq _ _ _)
  refine ra_store (L' := [_, _, _, _]) rfl rfl rfl (Nat.le_of_ble_eq_true rfl) rfl ?_
  refine ra_load rfl rfl rfl rfl ?_
  refine ra_load rfl rfl rfl rfl ?_
  refine ra_iconst rfl ?_
  refine ra_load rfl rfl rfl rfl ?_
  refine ra_cV (sp_201 hx0 (by first | omega | (unfold ra_in at *; omega)) hx1 (by first | assumption | rfl | omega)) rfl (ct_201 rfl lk_8_78 (Or.inl rfl) sh_179 (Nat.le_of_ble_eq_true rfl)) (fun s3 hs3 => ?_)
  obtain ⟨hf4, he5, he6⟩ := hs3
  have hF7 := Fr_tr (lo := 180) (hi := 181) Fr_rf hf4 (by omega)
  refine ra_load rfl rfl rfl rfl ?_
  refine ra_load rfl rfl rfl rfl ?_
  refine ra_load rfl rfl rfl rfl ?_
  refine ra_cV (sp_209 hx0 hr2 (by first | assumption | rfl | omega) (by have t1 := he5; have t2 : wq s3 x0 1 = wq σ x0 1 := he6 _ (by omega); omega) (by first | assumption | rfl | omega)) rfl (ct_209 rfl lk_8_82 (Or.inl rfl) sh_179 (Nat.le_of_ble_eq_true rfl)) (fun s8 hs8 => ?_)
  obtain ⟨hf9, he10⟩ := hs8
  have hF11 := Fr_tr (lo := 180) (hi := 181) hF7 hf9 (by omega)
  exact ra_return rfl rfl ⟨rfl, ⟨hF11, rsz_ch hp he5 he6 he10, (SC_tr (x5sc_up SC_rf he5 he6) he10)⟩⟩
end
