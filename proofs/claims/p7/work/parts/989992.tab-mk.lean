/-! T5: what the class changes (printed by wip/gen/c6.py) -/
section
variable {τ : ra_V} {nh : Int} {R : Nat → ra_V} {qq : Nat}
theorem l5_4_13 {n : Nat} {f : Nat → Int32} {d : Nat} {D : Nat} {σ : ra_V} (hD : isD D) (hT : x5CT τ σ D) (hW : x5W2 τ) : ∀ (nn : Nat) (v1 : Int) (v4 : Int) (hv1_0 : v1 = pcs τ v4.toNat) (hv1_1 : 0 ≤ v1 ∧ v1 ≤ v4) (hv4_0 : 0 ≤ v4) (hv4_1 : v4 ≤ 8) (hm : ((8 - v4 : Int)).toNat < nn), ra_P (g_Gs n f) g_sh 0 (d + 1) g_m_X0_standing 13 [none, some (ra_I v1), some (.index (D + 2)), some (ra_I ((8 : Nat) : Int)), some (ra_I v4), none] [] σ (fun r9 s => r9 = .inl (some (ra_I (ct τ (-1)))) ∧ s = σ) := by
  intro nn
  induction nn with
  | zero => intro v1 v4 hv1_0 hv1_1 hv4_0 hv4_1 hm; exact absurd hm (Nat.not_lt_zero _)
  | succ nn ih =>
    intro v1 v4 hv1_0 hv1_1 hv4_0 hv4_1 hm
    have hee : v4 < 8 → (0 < ra_g σ (D + 5 + v4.toNat) 2 ↔ wq τ v4 0 = 1) := fun q => x5CT_ei hT hv4_0 q
    have hex : v4 < 8 → (wq τ v4 0 = 0 ∨ wq τ v4 0 = 1) := fun q => WF_ex hW.1 hv4_0 q
    have hps := pcs_s (σ := τ) hv4_0
    refine ra_load rfl rfl rfl rfl ?_
    refine ra_load rfl rfl rfl rfl ?_
    refine ra_icge rfl rfl (by first | omega | (unfold ra_in at *; omega)) (by first | omega | (unfold ra_in at *; omega)) (fun h1 => ?_) (fun h1 => ?_)
    · refine ra_load rfl rfl rfl rfl ?_
      exact ra_ireturn rfl rfl ⟨(congrArg (fun z => Sum.inl (some (ra_I z))) (by obtain rfl : v4 = 8 := (by omega); exact hv1_0.trans (pcs_8 hW.1))), rfl⟩
    · refine ra_load rfl rfl rfl rfl ?_
      refine ra_load rfl rfl rfl rfl ?_
      refine ra_aaload rfl (sh_D2 hD) rfl (by decide) (by first | omega | (unfold ra_in at *; omega)) (by first | omega | (unfold ra_in at *; omega)) (sh_pt (by first | omega | (unfold ra_in at *; omega)) (by first | omega | (unfold ra_in at *; omega))) rfl ?_
      have hi2 : v4.toNat < 8 := (by first | omega | (unfold ra_in at *; omega))
      refine ra_store (L' := [_, _, _, _, _, _]) rfl rfl rfl (Nat.le_of_ble_eq_true rfl) rfl ?_
      refine ra_load rfl rfl rfl rfl ?_
      refine ra_cTp (s4_92 hD hi2) rfl (ct_92 rfl lk_0_81 (Or.inl rfl) (sh_P hD hi2) (Nat.le_of_ble_eq_true rfl)) ?_
      refine ra_ifeqB rfl rfl (fun h4 => ?_) (fun h4 => ?_)
      · refine ra_iinc (L' := [_, _, _, _, _, _]) rfl rfl (Nat.le_of_ble_eq_true rfl) rfl ?_
        refine ra_goto rfl rfl ?_
        exact ra_weak (by repeat' constructor) (ih v1 (v4 + 1) (by rw [hps]; omega) (by omega) (by first | omega | (unfold ra_in at *; omega)) (by first | omega | (unfold ra_in at *; omega)) (by first | omega | (unfold ra_in at *; omega)))
      · refine ra_iinc (L' := [_, _, _, _, _, _]) rfl rfl (Nat.le_of_ble_eq_true rfl) rfl ?_
        refine ra_iinc (L' := [_, _, _, _, _, _]) rfl rfl (Nat.le_of_ble_eq_true rfl) rfl ?_
        refine ra_goto rfl rfl ?_
        exact ra_weak (by repeat' constructor) (ih (v1 + 1) (v4 + 1) (by rw [hps]; omega) (by omega) (by first | omega | (unfold ra_in at *; omega)) (by first | omega | (unfold ra_in at *; omega)) (by first | omega | (unfold ra_in at *; omega)))
theorem s5_4 {n : Nat} {f : Nat → Int32} {d : Nat} {D : Nat} {σ : ra_V} (hD : isD D) (hT : x5CT τ σ D) (hW : x5W2 τ) : ra_C (g_Gs n f) g_sh 0 (d + 2) 4 [.index (D)] σ (fun r9 s => r9 = .inl (some (ra_I (ct τ (-1)))) ∧ s = σ) := by
  refine ra_enter (nn := 5) mt_4 rfl (Nat.le_of_ble_eq_true rfl) rfl (fun h => absurd h (by decide +kernel)) ?_
  refine ra_iconst rfl ?_
  refine ra_store (L' := [_, _, _, _, _, _]) rfl rfl rfl (Nat.le_of_ble_eq_true rfl) rfl ?_
  refine ra_load rfl rfl rfl rfl ?_
  refine ra_getR rfl lk_0_17 (Nat.zero_le _) (sh_D hD) rfl ?_
  refine ra_store (L' := [_, _, _, _, _, _]) rfl rfl rfl (Nat.le_of_ble_eq_true rfl) rfl ?_
  refine ra_load rfl rfl rfl rfl ?_
  refine ra_alen rfl (sh_D2 hD) rfl ?_
  refine ra_store (L' := [_, _, _, _, _, _]) rfl rfl rfl (Nat.le_of_ble_eq_true rfl) rfl ?_
  refine ra_iconst rfl ?_
  refine ra_store (L' := [_, _, _, _, _, _]) rfl rfl rfl (Nat.le_of_ble_eq_true rfl) rfl ?_
  exact ra_weak (by repeat' constructor) (l5_4_13 hD hT hW _ (0) (0) rfl (by first | omega | (unfold ra_in at *; omega)) (by first | omega | (unfold ra_in at *; omega)) (by first | omega | (unfold ra_in at *; omega)) (Nat.lt_succ_self _))
theorem l5_33_14 {n : Nat} {f : Nat → Int32} {d : Nat} {D : Nat} {x0 : Int} {x1 : Int} {x2 : Int} {x3 : Int} {σ : ra_V} (hD : isD D) (hx0 : ra_in x0) (hx1 : ra_in x1) (hx2 : ra_in x2) (hx3 : ra_in x3) (hT : x5CT τ σ D) (hW : x5W2 τ) (hx : ∃ q, 0 ≤ q ∧ q < 8 ∧ wq τ q 0 ≠ 1) (hm1 : 0 < x1) : ∀ (nn : Nat) (v7 : Int) (hv7_0 : 0 ≤ v7) (hv7_1 : v7 ≤ 8) (hv7_2 : ∀ r, 0 ≤ r → r < v7 → wq τ r 0 = 1) (hm : ((8 - v7 : Int)).toNat < nn), ra_P (g_Gs n f) g_sh 0 (d + 2) g_m_X0_make 14 [some (.index (D)), some (ra_I x0), some (ra_I x1), some (ra_I x2), some (ra_I x3), some (.index (D + 2)), some (ra_I ((8 : Nat) : Int)), some (ra_I v7), none] [] σ (fun r9 s => r9 = .inl (some (ra_I (x5nfr τ))) ∧ Fr (D) (D + 13) σ s ∧ x5CT (x5mkV τ (x5nfr τ) x0 x1 x2 x3) s D) := by
  intro nn
  induction nn with
  | zero => intro v7 hv7_0 hv7_1 hv7_2 hm; exact absurd hm (Nat.not_lt_zero _)
  | succ nn ih =>
    intro v7 hv7_0 hv7_1 hv7_2 hm
    have ev7 : ((v7.toNat : Nat) : Int) = v7 := by omega
    have hee : v7 < 8 → (0 < ra_g σ (D + 5 + v7.toNat) 2 ↔ wq τ v7 0 = 1) := fun q => x5CT_ei hT hv7_0 q
    have hv8 : v7 < 8 := free_lt hx hv7_2
    refine ra_load rfl rfl rfl rfl ?_
    refine ra_load rfl rfl rfl rfl ?_
    refine ra_icge rfl rfl (by first | omega | (unfold ra_in at *; omega)) (by first | omega | (unfold ra_in at *; omega)) (fun h1 => ?_) (fun h1 => ?_)
    · refine ra_iconst rfl ?_
      exact ra_ireturn rfl rfl ⟨(congrArg (fun z => Sum.inl (some (ra_I z))) (by exfalso; omega)), (by exfalso; omega)⟩
    · refine ra_load rfl rfl rfl rfl ?_
      refine ra_load rfl rfl rfl rfl ?_
      refine ra_aaload rfl (sh_D2 hD) rfl (by decide) (by first | omega | (unfold ra_in at *; omega)) (by first | omega | (unfold ra_in at *; omega)) (sh_pt (by first | omega | (unfold ra_in at *; omega)) (by first | omega | (unfold ra_in at *; omega))) rfl ?_
      have hi2 : v7.toNat < 8 := (by first | omega | (unfold ra_in at *; omega))
      refine ra_store (L' := [_, _, _, _, _, _, _, _, _]) rfl rfl rfl (Nat.le_of_ble_eq_true rfl) rfl ?_
      refine ra_load rfl rfl rfl rfl ?_
      refine ra_cTp (s4_92 hD hi2) rfl (ct_92 rfl lk_0_81 (Or.inl rfl) (sh_P hD hi2) (Nat.le_of_ble_eq_true rfl)) ?_
      refine ra_ifneB rfl rfl (fun h4 => ?_) (fun h4 => ?_)
      · refine ra_iinc (L' := [_, _, _, _, _, _, _, _, _]) rfl rfl (Nat.le_of_ble_eq_true rfl) rfl ?_
        refine ra_goto rfl rfl ?_
        exact ra_weak (by repeat' constructor) (ih (v7 + 1) (by first | omega | (unfold ra_in at *; omega)) (by first | omega | (unfold ra_in at *; omega)) (fun r a b => if e : r = v7 then (by rw [e]; omega) else hv7_2 r a (by omega)) (by first | omega | (unfold ra_in at *; omega)))
      · refine ra_load rfl rfl rfl rfl ?_
        refine ra_load rfl rfl rfl rfl ?_
        refine ra_putI rfl lk_0_85 (Nat.zero_le _) (sh_P hD hi2) rfl rfl ?_
        refine ra_newU hx0 (fun s5 hs5 hp6 hp6o => ?_)
        have hF7 := Fr_tr (lo := D) (hi := D + 13) Fr_rf hs5 (by omega)
        refine ra_load rfl rfl rfl rfl ?_
        refine ra_load rfl rfl rfl rfl ?_
        refine ra_putI rfl lk_0_65 (Nat.zero_le _) (sh_P hD hi2) rfl rfl ?_
        refine ra_newU hx1 (fun s8 hs8 hp9 hp9o => ?_)
        have hF10 := Fr_tr (lo := D) (hi := D + 13) hF7 hs8 (by omega)
        refine ra_load rfl rfl rfl rfl ?_
        refine ra_load rfl rfl rfl rfl ?_
        refine ra_putI rfl lk_0_148 (Nat.zero_le _) (sh_P hD hi2) rfl rfl ?_
        refine ra_newU hx3 (fun s11 hs11 hp12 hp12o => ?_)
        have hF13 := Fr_tr (lo := D) (hi := D + 13) hF10 hs11 (by omega)
        refine ra_load rfl rfl rfl rfl ?_
        refine ra_load rfl rfl rfl rfl ?_
        refine ra_putI rfl lk_0_220 (Nat.zero_le _) (sh_P hD hi2) rfl rfl ?_
        refine ra_newU hx2 (fun s14 hs14 hp15 hp15o => ?_)
        have hF16 := Fr_tr (lo := D) (hi := D + 13) hF13 hs14 (by omega)
        refine ra_load rfl rfl rfl rfl ?_
        refine ra_iconst rfl ?_
        refine ra_putB rfl lk_0_94 (Nat.zero_le _) (sh_P hD hi2) rfl rfl (Or.inl rfl) ?_
        refine ra_newU (ra_in01 (Or.inl rfl)) (fun s17 hs17 hp18 hp18o => ?_)
        have hF19 := Fr_tr (lo := D) (hi := D + 13) hF16 hs17 (by omega)
        refine ra_load rfl rfl rfl rfl ?_
        refine ra_load rfl rfl rfl rfl ?_
        refine ra_getI rfl lk_0_50 (Nat.zero_le _) (sh_D hD) rfl ?_
        rw [show (ra_g s17 (D) 9) = (ra_g σ (D) 9) from ((ra_gk (hs17 (D) (by omega))).trans ((ra_gk (hs14 (D) (by omega))).trans ((ra_gk (hs11 (D) (by omega))).trans ((ra_gk (hs8 (D) (by omega))).trans (ra_gk (hs5 (D) (by omega)))))))]
        have hr20 : ra_in (ra_g σ (D) 9) := (by rw [← (show (ra_g s17 (D) 9) = (ra_g σ (D) 9) from ((ra_gk (hs17 (D) (by omega))).trans ((ra_gk (hs14 (D) (by omega))).trans ((ra_gk (hs11 (D) (by omega))).trans ((ra_gk (hs8 (D) (by omega))).trans (ra_gk (hs5 (D) (by omega))))))))]; exact ra_in_g _ _ _)
        refine ra_putI rfl lk_0_223 (Nat.zero_le _) (sh_P hD hi2) rfl rfl ?_
        refine ra_newU hr20 (fun s21 hs21 hp22 hp22o => ?_)
        have hF23 := Fr_tr (lo := D) (hi := D + 13) hF19 hs21 (by omega)
        refine ra_load rfl rfl rfl rfl ?_
        refine ra_iconst rfl ?_
        refine ra_putI rfl lk_0_226 (Nat.zero_le _) (sh_P hD hi2) rfl rfl ?_
        refine ra_newU (by first | omega | (unfold ra_in at *; omega)) (fun s24 hs24 hp25 hp25o => ?_)
        have hF26 := Fr_tr (lo := D) (hi := D + 13) hF23 hs24 (by omega)
        refine ra_load rfl rfl rfl rfl ?_
        refine ra_dup rfl rfl ?_
        refine ra_getI rfl lk_0_50 (Nat.zero_le _) (sh_D hD) rfl ?_
        rw [show (ra_g s24 (D) 9) = (ra_g σ (D) 9) from ((ra_gk (hs24 (D) (by omega))).trans ((ra_gk (hs21 (D) (by omega))).trans ((ra_gk (hs17 (D) (by omega))).trans ((ra_gk (hs14 (D) (by omega))).trans ((ra_gk (hs11 (D) (by omega))).trans ((ra_gk (hs8 (D) (by omega))).trans (ra_gk (hs5 (D) (by omega)))))))))]
        have hr27 : ra_in (ra_g σ (D) 9) := (by rw [← (show (ra_g s24 (D) 9) = (ra_g σ (D) 9) from ((ra_gk (hs24 (D) (by omega))).trans ((ra_gk (hs21 (D) (by omega))).trans ((ra_gk (hs17 (D) (by omega))).trans ((ra_gk (hs14 (D) (by omega))).trans ((ra_gk (hs11 (D) (by omega))).trans ((ra_gk (hs8 (D) (by omega))).trans (ra_gk (hs5 (D) (by omega))))))))))]; exact ra_in_g _ _ _)
        refine ra_iconst rfl ?_
        refine ra_iadd rfl ?_
        refine x5wr_ ?_
        refine ra_putI rfl lk_0_50 (Nat.zero_le _) (sh_D hD) rfl rfl ?_
        refine ra_newU (ra_w_in _) (fun s28 hs28 hp29 hp29o => ?_)
        have hF30 := Fr_tr (lo := D) (hi := D + 13) hF26 hs28 (by omega)
        refine ra_load rfl rfl rfl rfl ?_
        refine ra_load rfl rfl rfl rfl ?_
        refine ra_iconst rfl ?_
        refine ra_cV (sp_25 hD hi2 (by first | omega | (unfold ra_in at *; omega))) rfl (ct_25 rfl lk_0_229 (Or.inl rfl) (sh_D hD) (Nat.le_of_ble_eq_true rfl)) (fun s31 hs31 => ?_)
        have hF32 := Fr_tr (lo := D) (hi := D + 13) hF30 hs31 (by omega)
        refine ra_load rfl rfl rfl rfl ?_
        refine ra_getK rfl lk_0_91 (Nat.zero_le _) (sh_P hD hi2) rfl ?_
        exact ra_ireturn rfl rfl ⟨(congrArg (fun z => Sum.inl (some (ra_I z))) (by rw [ev7]; exact x5nfr_e ⟨by omega, by omega⟩ (by omega) hv7_2)), ⟨hF32, by rw [← x5nfr_e (z := v7) ⟨by omega, by omega⟩ (by omega) hv7_2]; exact (show x5CT (x5mkV τ v7 x0 x1 x2 x3) s31 D from by have q9 := x5ct_mk (p := v7.toNat) hT hW.1 (by omega) (by rw [ev7]; omega) (fun c c1 c2 c3 c4 => ((hs31 c (by omega)).trans ((hs28 c (by omega)).trans ((hs24 c (by omega)).trans ((hs21 c (by omega)).trans ((hs17 c (by omega)).trans ((hs14 c (by omega)).trans ((hs11 c (by omega)).trans ((hs8 c (by omega)).trans (hs5 c (by omega))))))))))) (((ra_gk (hs31 (D) (by omega))).trans hp29)) (fun a ha => ((ra_gk (hs31 (D) (by omega))).trans ((hp29o a (by omega)).trans ((ra_gk (hs24 (D) (by omega))).trans ((ra_gk (hs21 (D) (by omega))).trans ((ra_gk (hs17 (D) (by omega))).trans ((ra_gk (hs14 (D) (by omega))).trans ((ra_gk (hs11 (D) (by omega))).trans ((ra_gk (hs8 (D) (by omega))).trans (ra_gk (hs5 (D) (by omega)))))))))))) ((ra_gk (hs31 (D + 5 + v7.toNat) (by omega))).trans ((ra_gk (hs28 (D + 5 + v7.toNat) (by omega))).trans ((hp25o 1 (by decide)).trans ((hp22o 1 (by decide)).trans ((hp18o 1 (by decide)).trans ((hp15o 1 (by decide)).trans ((hp12o 1 (by decide)).trans ((hp9o 1 (by decide)).trans hp6)))))))) ((ra_gk (hs31 (D + 5 + v7.toNat) (by omega))).trans ((ra_gk (hs28 (D + 5 + v7.toNat) (by omega))).trans ((hp25o 2 (by decide)).trans ((hp22o 2 (by decide)).trans ((hp18o 2 (by decide)).trans ((hp15o 2 (by decide)).trans ((hp12o 2 (by decide)).trans hp9))))))) ((ra_gk (hs31 (D + 5 + v7.toNat) (by omega))).trans ((ra_gk (hs28 (D + 5 + v7.toNat) (by omega))).trans ((hp25o 3 (by decide)).trans ((hp22o 3 (by decide)).trans ((hp18o 3 (by decide)).trans ((hp15o 3 (by decide)).trans hp12)))))) ((ra_gk (hs31 (D + 5 + v7.toNat) (by omega))).trans ((ra_gk (hs28 (D + 5 + v7.toNat) (by omega))).trans ((hp25o 4 (by decide)).trans ((hp22o 4 (by decide)).trans ((hp18o 4 (by decide)).trans hp15))))) ((ra_gk (hs31 (D + 5 + v7.toNat) (by omega))).trans ((ra_gk (hs28 (D + 5 + v7.toNat) (by omega))).trans ((hp25o 5 (by decide)).trans ((hp22o 5 (by decide)).trans hp18)))) (((ra_gk (hs31 (D + 5 + v7.toNat) (by omega))).trans ((ra_gk (hs28 (D + 5 + v7.toNat) (by omega))).trans ((hp25o 6 (by decide)).trans hp22)))) ((ra_gk (hs31 (D + 5 + v7.toNat) (by omega))).trans ((ra_gk (hs28 (D + 5 + v7.toNat) (by omega))).trans hp25)) (by omega); rw [ev7] at q9; exact q9)⟩⟩
theorem s5_33 {n : Nat} {f : Nat → Int32} {d : Nat} {D : Nat} {x0 : Int} {x1 : Int} {x2 : Int} {x3 : Int} {σ : ra_V} (hD : isD D) (hx0 : ra_in x0) (hx1 : ra_in x1) (hx2 : ra_in x2) (hx3 : ra_in x3) (hT : x5CT τ σ D) (hW : x5W2 τ) (hx : ∃ q, 0 ≤ q ∧ q < 8 ∧ wq τ q 0 ≠ 1) (hm1 : 0 < x1) : ra_C (g_Gs n f) g_sh 0 (d + 3) 33 [.index (D), ra_I x0, ra_I x1, ra_I x2, ra_I x3] σ (fun r9 s => r9 = .inl (some (ra_I (x5nfr τ))) ∧ Fr (D) (D + 13) σ s ∧ x5CT (x5mkV τ (x5nfr τ) x0 x1 x2 x3) s D) := by
  refine ra_enter (nn := 4) mt_33 rfl (Nat.le_of_ble_eq_true rfl) rfl (fun h => absurd h (by decide +kernel)) ?_
  refine ra_load rfl rfl rfl rfl ?_
  refine ra_getR rfl lk_0_17 (Nat.zero_le _) (sh_D hD) rfl ?_
  refine ra_store (L' := [_, _, _, _, _, _, _, _, _]) rfl rfl rfl (Nat.le_of_ble_eq_true rfl) rfl ?_
  refine ra_load rfl rfl rfl rfl ?_
  refine ra_alen rfl (sh_D2 hD) rfl ?_
  refine ra_store (L' := [_, _, _, _, _, _, _, _, _]) rfl rfl rfl (Nat.le_of_ble_eq_true rfl) rfl ?_
  refine ra_iconst rfl ?_
  refine ra_store (L' := [_, _, _, _, _, _, _, _, _]) rfl rfl rfl (Nat.le_of_ble_eq_true rfl) rfl ?_
  exact ra_weak (by repeat' constructor) (l5_33_14 hD hx0 hx1 hx2 hx3 hT hW hx hm1 _ (0) (by first | omega | (unfold ra_in at *; omega)) (by first | omega | (unfold ra_in at *; omega)) (fun r a b => by omega) (Nat.lt_succ_self _))
theorem s5_34 {n : Nat} {f : Nat → Int32} {d : Nat} {D : Nat} {i0 : Nat} {x1 : Int} {σ : ra_V} (hD : isD D) (hi0 : i0 < 8) (hx1 : ra_in x1) (hT : x5CT τ σ D) (hW : x5W2 τ) (he : wq τ i0 0 = 1) (hn16 : ra_g τ 180 16 ≠ (i0 : Int)) (hm1 : 0 < x1) : ra_C (g_Gs n f) g_sh 0 (d + 3) 34 [.index (D), .index (D + 5 + i0), ra_I x1] σ (fun r9 s => rV r9 ∧ Fr (D) (D + 13) σ s ∧ x5CT (x5up τ (24 + 8 * (i0 : Int) + 2).toNat x1) s D) := by
  refine ra_enter (nn := 1) mt_34 rfl (Nat.le_of_ble_eq_true rfl) rfl (fun h => absurd h (by decide +kernel)) ?_
  refine ra_load rfl rfl rfl rfl ?_
  refine ra_getI rfl lk_0_65 (Nat.zero_le _) (sh_P hD hi0) rfl ?_
  have hr1 : ra_in (ra_g σ (D + 5 + i0) 2) := (ra_in_g _ _ _)
  refine ra_store (L' := [_, _, _, _]) rfl rfl rfl (Nat.le_of_ble_eq_true rfl) rfl ?_
  refine ra_load rfl rfl rfl rfl ?_
  refine ra_load rfl rfl rfl rfl ?_
  refine ra_putI rfl lk_0_65 (Nat.zero_le _) (sh_P hD hi0) rfl rfl ?_
  refine ra_newU hx1 (fun s2 hs2 hp3 hp3o => ?_)
  have hF4 := Fr_tr (lo := D) (hi := D + 13) Fr_rf hs2 (by omega)
  refine ra_load rfl rfl rfl rfl ?_
  refine ra_load rfl rfl rfl rfl ?_
  refine ra_load rfl rfl rfl rfl ?_
  refine ra_cV (sp_25 hD hi0 hr1) rfl (ct_25 rfl lk_0_229 (Or.inl rfl) (sh_D hD) (Nat.le_of_ble_eq_true rfl)) (fun s5 hs5 => ?_)
  have hF6 := Fr_tr (lo := D) (hi := D + 13) hF4 hs5 (by omega)
  exact ra_return rfl rfl ⟨rfl, ⟨hF6, x5ct_upP (w := 2) hT hW.1 hi0 (by omega) (by omega) (by omega) he (fun _ => hn16) (fun c c1 c2 c3 c4 => ((hs5 c (by omega)).trans (hs2 c (by omega)))) (((ra_gk (hs5 (D + 5 + i0) (by omega))).trans hp3)) (fun a ha => ((ra_gk (hs5 (D + 5 + i0) (by omega))).trans (hp3o a (by omega)))) (fun _ => hm1)⟩⟩
end
