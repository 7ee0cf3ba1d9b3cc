/-! the reference: what its methods do (printed by wip/gen/ref.py) -/
section RB
theorem sq_227 {n : Nat} {f : Nat → Int32} {d : Nat}  {σ : ra_V} (hm : MG σ) : ra_C (g_Gs n f) g_sh 0 (d + 2) 227 [.index (179)] σ (fun r s => r = .inl (some (ra_I (rch σ))) ∧ s = σ) := by
  refine ra_enter (nn := 0) mt_227 rfl (Nat.le_of_ble_eq_true rfl) rfl (fun h => absurd h (by decide +kernel)) ?_
  have hm0 := hm
  unfold MG at hm0
  refine ra_load rfl rfl rfl rfl ?_
  refine ra_load rfl rfl rfl rfl ?_
  refine ra_getR rfl lk_8_7 (Nat.zero_le _) sh_179 rfl ?_
  refine ra_bipush rfl (by decide) ?_
  refine ra_ialoadJ (j := 16) rfl sh_180 rfl (by decide) rfl (by decide) ?_
  have hr1 : ra_in (ra_g σ (180) 16) := (ra_in_g _ _ _)
  refine ra_iconst rfl ?_
  refine ra_cTp (sp_199 hr1 (by first | omega | (unfold ra_in at *; omega)) (by first | assumption | rfl | omega)) rfl (ct_199 rfl lk_8_67 (Or.inl rfl) sh_179 (Nat.le_of_ble_eq_true rfl)) ?_
  have hr3 : ra_in (wq σ (ra_g σ (180) 16) (2)) := (ra_in_wq _ _ _)
  refine ra_load rfl rfl rfl rfl ?_
  refine ra_getR rfl lk_8_7 (Nat.zero_le _) sh_179 rfl ?_
  refine ra_bipush rfl (by decide) ?_
  refine ra_ialoadJ (j := 19) rfl sh_180 rfl (by decide) rfl (by decide) ?_
  have hr4 : ra_in (ra_g σ (180) 19) := (ra_in_g _ _ _)
  refine ra_cTp (sp_206 hr3 hr4 (by first | assumption | rfl | omega)) rfl (ct_206 rfl lk_8_120 (Or.inl rfl) (Nat.le_of_ble_eq_true rfl)) ?_
  have hr6 : ra_in (((wq σ (ra_g σ (180) 16) (2)) + (ra_g σ (180) 19) - 1).tdiv (ra_g σ (180) 19)) := (ra_in_tdiv (by unfold ra_in; omega) (by omega))
  exact ra_ireturn rfl rfl ⟨(congrArg (fun z => Sum.inl (some (ra_I z))) rfl), rfl⟩
theorem sp_240 {n : Nat} {f : Nat → Int32} {d : Nat}  {σ : ra_V} (hmf : MF σ) (hw : WF σ) : ra_C (g_Gs n f) g_sh 0 (d + 9) 240 [.index (179)] σ (fun r s => rV r ∧ Fr (180) (181) σ s ∧ WF s ∧ ∀ p, 0 ≤ p → p < 8 → wq s p 0 = wq σ p 0) := by
  refine ra_enter (nn := 2) mt_240 rfl (Nat.le_of_ble_eq_true rfl) rfl (fun h => absurd h (by decide +kernel)) ?_
  have hm0 := hmf
  unfold MF at hm0
  refine ra_load rfl rfl rfl rfl ?_
  refine ra_cIPp (sp_235 hmf) rfl (ct_235 rfl lk_8_165 (Or.inl rfl) sh_179 (Nat.le_of_ble_eq_true rfl)) (fun z2 hz2 hz2p => ?_)
  refine ra_store (L' := [_, _, _]) rfl rfl rfl (Nat.le_of_ble_eq_true rfl) rfl ?_
  refine ra_load rfl rfl rfl rfl ?_
  refine ra_load rfl rfl rfl rfl ?_
  refine ra_cTp (sp_233 hmf) rfl (ct_233 rfl lk_8_162 (Or.inl rfl) sh_179 (Nat.le_of_ble_eq_true rfl)) ?_
  have hr4 : ra_in (rbn σ) := (by first | omega | (unfold ra_in at *; omega))
  refine ra_cV (sp_238 hr4 hmf (by first | assumption | rfl | omega)) rfl (ct_238 rfl lk_8_174 (Or.inl rfl) sh_179 (Nat.le_of_ble_eq_true rfl)) (fun s5 hs5 => ?_)
  obtain ⟨hf6, he7⟩ := hs5
  have hF8 := Fr_tr (lo := 180) (hi := 181) Fr_rf hf6 (by omega)
  refine ra_load rfl rfl rfl rfl ?_
  refine ra_getR rfl lk_8_7 (Nat.zero_le _) sh_179 rfl ?_
  refine ra_bipush rfl (by decide) ?_
  refine ra_dup2 rfl rfl rfl ?_
  refine ra_ialoadJ (j := 6) rfl sh_180 rfl (by decide) rfl (by decide) ?_
  have hr9 : ra_in (ra_g s5 (180) 6) := (ra_in_g _ _ _)
  refine ra_iconst rfl ?_
  refine ra_iadd rfl ?_
  refine ra_gen (fun z10 hz10 => ?_)
  refine ra_iastoreJ (j := 6) rfl sh_180 rfl (by decide) rfl (by decide) ?_
  refine ra_newR hz10 (fun s11 hs11 hs11v hs11o => ?_)
  have hF12 := Fr_tr (lo := 180) (hi := 181) hF8 hs11 (by omega)
  refine ra_load rfl rfl rfl rfl ?_
  refine ra_getR rfl lk_8_7 (Nat.zero_le _) sh_179 rfl ?_
  refine ra_bipush rfl (by decide) ?_
  refine ra_load rfl rfl rfl rfl ?_
  refine ra_iconst rfl ?_
  refine ra_icne rfl rfl hz2 (by first | omega | (unfold ra_in at *; omega)) (fun h13 => ?_) (fun h13 => ?_)
  · refine ra_iconst rfl ?_
    refine ra_iastoreJ (j := 22) rfl sh_180 rfl (by decide) rfl (by decide) ?_
    refine ra_newR (by first | omega | (unfold ra_in at *; omega)) (fun s14 hs14 hs14v hs14o => ?_)
    have hF15 := Fr_tr (lo := 180) (hi := 181) hF12 hs14 (by omega)
    have hR3 := st_rel he7 hs11o hs14o
    have e21 : ra_g s14 180 21 = ra_g σ 180 21 := (hs14o 21 (by decide)).trans ((hs11o 21 (by decide)).trans (he7 21 (by omega)))
    refine ra_load rfl rfl rfl rfl ?_
    refine ra_iconst rfl ?_
    refine ra_icne rfl rfl hz2 (by first | omega | (unfold ra_in at *; omega)) (fun h16 => ?_) (fun h16 => ?_)
    · refine ra_load rfl rfl rfl rfl ?_
      refine ra_getR rfl lk_8_7 (Nat.zero_le _) sh_179 rfl ?_
      refine ra_bipush rfl (by decide) ?_
      refine ra_dup2 rfl rfl rfl ?_
      refine ra_ialoadJ (j := 21) rfl sh_180 rfl (by decide) rfl (by decide) ?_
      have hr17 : ra_in (ra_g s14 (180) 21) := (ra_in_g _ _ _)
      refine ra_iconst rfl ?_
      refine ra_iadd rfl ?_
      refine ra_iastoreJ (j := 21) rfl sh_180 rfl (by decide) rfl (by decide) ?_
      refine ra_newR (by first | omega | (unfold ra_in at *; omega)) (fun s18 hs18 hs18v hs18o => ?_)
      have hF19 := Fr_tr (lo := 180) (hi := 181) hF15 hs18 (by omega)
      refine ra_load rfl rfl rfl rfl ?_
      refine ra_getR rfl lk_8_7 (Nat.zero_le _) sh_179 rfl ?_
      refine ra_bipush rfl (by decide) ?_
      refine ra_ialoadJ (j := 21) rfl sh_180 rfl (by decide) rfl (by decide) ?_
      have hr20 : ra_in (ra_g s18 (180) 21) := (ra_in_g _ _ _)
      have hR4 := st_rel2 hR3 hs18o
      have hG := mg_r hmf hR4
      have hG1 := hG.1
      have hG3 := hG.2.2.2
      refine ra_load rfl rfl rfl rfl ?_
      refine ra_cTp (sq_227 hG.2.2.1) rfl (ct_227 rfl lk_8_150 (Or.inl rfl) sh_179 (Nat.le_of_ble_eq_true rfl)) ?_
      have hr22 : ra_in (rch s18) := (by first | omega | (unfold ra_in at *; omega))
      refine ra_icge rfl rfl hr20 hr22 (fun h23 => ?_) (fun h23 => ?_)
      · refine ra_load rfl rfl rfl rfl ?_
        refine ra_getR rfl lk_8_7 (Nat.zero_le _) sh_179 rfl ?_
        refine ra_bipush rfl (by decide) ?_
        refine ra_ialoadJ (j := 16) rfl sh_180 rfl (by decide) rfl (by decide) ?_
        have hr24 : ra_in (ra_g s18 (180) 16) := (ra_in_g _ _ _)
        refine ra_store (L' := [_, _, _]) rfl rfl rfl (Nat.le_of_ble_eq_true rfl) rfl ?_
        refine ra_load rfl rfl rfl rfl ?_
        refine ra_load rfl rfl rfl rfl ?_
        refine ra_iconst rfl ?_
        refine ra_load rfl rfl rfl rfl ?_
        refine ra_getR rfl lk_8_7 (Nat.zero_le _) sh_179 rfl ?_
        refine ra_bipush rfl (by decide) ?_
        refine ra_ialoadJ (j := 18) rfl sh_180 rfl (by decide) rfl (by decide) ?_
        have hr25 : ra_in (ra_g s18 (180) 18) := (ra_in_g _ _ _)
        refine ra_cV (sp_200 hr24 (by first | omega | (unfold ra_in at *; omega)) hr25 (by first | assumption | rfl | omega)) rfl (ct_200 rfl lk_8_78 (Or.inl rfl) sh_179 (Nat.le_of_ble_eq_true rfl)) (fun s26 hs26 => ?_)
        obtain ⟨hf27, he28, he29⟩ := hs26
        have hF30 := Fr_tr (lo := 180) (hi := 181) hF19 hf27 (by omega)
        refine ra_load rfl rfl rfl rfl ?_
        refine ra_load rfl rfl rfl rfl ?_
        refine ra_bipush rfl (by decide) ?_
        refine ra_load rfl rfl rfl rfl ?_
        refine ra_load rfl rfl rfl rfl ?_
        refine ra_bipush rfl (by decide) ?_
        refine ra_cTp (sp_199 hr24 (by first | omega | (unfold ra_in at *; omega)) (by first | assumption | rfl | omega)) rfl (ct_199 rfl lk_8_67 (Or.inl rfl) sh_179 (Nat.le_of_ble_eq_true rfl)) ?_
        have hr32 : ra_in (wq s26 (ra_g s18 (180) 16) (7)) := (ra_in_wq _ _ _)
        refine ra_iconst rfl ?_
        refine ra_iadd rfl ?_
        refine ra_gen (fun z33 hz33 => ?_)
        refine ra_cV (sp_200 hr24 (by first | omega | (unfold ra_in at *; omega)) hz33 (by first | assumption | rfl | omega)) rfl (ct_200 rfl lk_8_78 (Or.inl rfl) sh_179 (Nat.le_of_ble_eq_true rfl)) (fun s34 hs34 => ?_)
        obtain ⟨hf35, he36, he37⟩ := hs34
        have hF38 := Fr_tr (lo := 180) (hi := 181) hF30 hf35 (by omega)
        refine ra_load rfl rfl rfl rfl ?_
        refine ra_getR rfl lk_8_7 (Nat.zero_le _) sh_179 rfl ?_
        refine ra_bipush rfl (by decide) ?_
        refine ra_iconst rfl ?_
        refine ra_iastoreJ (j := 16) rfl sh_180 rfl (by decide) rfl (by decide) ?_
        refine ra_newR (by first | omega | (unfold ra_in at *; omega)) (fun s39 hs39 hs39v hs39o => ?_)
        have hF40 := Fr_tr (lo := 180) (hi := 181) hF38 hs39 (by omega)
        refine ra_load rfl rfl rfl rfl ?_
        refine ra_getR rfl lk_8_7 (Nat.zero_le _) sh_179 rfl ?_
        refine ra_bipush rfl (by decide) ?_
        refine ra_dup2 rfl rfl rfl ?_
        refine ra_ialoadJ (j := 8) rfl sh_180 rfl (by decide) rfl (by decide) ?_
        have hr41 : ra_in (ra_g s39 (180) 8) := (ra_in_g _ _ _)
        refine ra_iconst rfl ?_
        refine ra_iadd rfl ?_
        refine ra_gen (fun z42 hz42 => ?_)
        refine ra_iastoreJ (j := 8) rfl sh_180 rfl (by decide) rfl (by decide) ?_
        refine ra_newR hz42 (fun s43 hs43 hs43v hs43o => ?_)
        have hF44 := Fr_tr (lo := 180) (hi := 181) hF40 hs43 (by omega)
        exact ra_return rfl rfl ⟨rfl, ⟨hF44, mv_ec hw hmf hR4 rfl he28 he29 he37 hs39v hs39o hs43o, (fun p p0 p1 => ((hs43o _ (by omega)).trans ((hs39o _ (by omega)).trans ((he37 _ (by omega)).trans ((he29 _ (by omega)).trans ((hs18o _ (by omega)).trans ((hs14o _ (by omega)).trans ((hs11o _ (by omega)).trans (he7 _ (by omega))))))))))⟩⟩
      · exact ra_return rfl rfl ⟨rfl, ⟨hF19, mv_w hw hmf hR4 ⟨by have t := hs18v; omega, by omega⟩ (by have t := hs14v; have t2 := hs18o 22 (by decide); omega), (fun p p0 p1 => ((hs18o _ (by omega)).trans ((hs14o _ (by omega)).trans ((hs11o _ (by omega)).trans (he7 _ (by omega))))))⟩⟩
    · exact ra_return rfl rfl ⟨rfl, ⟨hF15, mv_w hw hmf hR3 ⟨by omega, by omega⟩ (by have t := hs14v; omega), (fun p p0 p1 => ((hs14o _ (by omega)).trans ((hs11o _ (by omega)).trans (he7 _ (by omega)))))⟩⟩
  · refine ra_iconst rfl ?_
    refine ra_goto rfl rfl ?_
    refine ra_iastoreJ (j := 22) rfl sh_180 rfl (by decide) rfl (by decide) ?_
    refine ra_newR (by first | omega | (unfold ra_in at *; omega)) (fun s45 hs45 hs45v hs45o => ?_)
    have hF46 := Fr_tr (lo := 180) (hi := 181) hF12 hs45 (by omega)
    have hR3 := st_rel he7 hs11o hs45o
    have e21 : ra_g s45 180 21 = ra_g σ 180 21 := (hs45o 21 (by decide)).trans ((hs11o 21 (by decide)).trans (he7 21 (by omega)))
    refine ra_load rfl rfl rfl rfl ?_
    refine ra_iconst rfl ?_
    refine ra_icne rfl rfl hz2 (by first | omega | (unfold ra_in at *; omega)) (fun h47 => ?_) (fun h47 => ?_)
    · refine ra_load rfl rfl rfl rfl ?_
      refine ra_getR rfl lk_8_7 (Nat.zero_le _) sh_179 rfl ?_
      refine ra_bipush rfl (by decide) ?_
      refine ra_dup2 rfl rfl rfl ?_
      refine ra_ialoadJ (j := 21) rfl sh_180 rfl (by decide) rfl (by decide) ?_
      have hr48 : ra_in (ra_g s45 (180) 21) := (ra_in_g _ _ _)
      refine ra_iconst rfl ?_
      refine ra_iadd rfl ?_
      refine ra_iastoreJ (j := 21) rfl sh_180 rfl (by decide) rfl (by decide) ?_
      refine ra_newR (by first | omega | (unfold ra_in at *; omega)) (fun s49 hs49 hs49v hs49o => ?_)
      have hF50 := Fr_tr (lo := 180) (hi := 181) hF46 hs49 (by omega)
      refine ra_load rfl rfl rfl rfl ?_
      refine ra_getR rfl lk_8_7 (Nat.zero_le _) sh_179 rfl ?_
      refine ra_bipush rfl (by decide) ?_
      refine ra_ialoadJ (j := 21) rfl sh_180 rfl (by decide) rfl (by decide) ?_
      have hr51 : ra_in (ra_g s49 (180) 21) := (ra_in_g _ _ _)
      have hR4 := st_rel2 hR3 hs49o
      have hG := mg_r hmf hR4
      have hG1 := hG.1
      have hG3 := hG.2.2.2
      refine ra_load rfl rfl rfl rfl ?_
      refine ra_cTp (sq_227 hG.2.2.1) rfl (ct_227 rfl lk_8_150 (Or.inl rfl) sh_179 (Nat.le_of_ble_eq_true rfl)) ?_
      have hr53 : ra_in (rch s49) := (by first | omega | (unfold ra_in at *; omega))
      refine ra_icge rfl rfl hr51 hr53 (fun h54 => ?_) (fun h54 => ?_)
      · refine ra_load rfl rfl rfl rfl ?_
        refine ra_getR rfl lk_8_7 (Nat.zero_le _) sh_179 rfl ?_
        refine ra_bipush rfl (by decide) ?_
        refine ra_ialoadJ (j := 16) rfl sh_180 rfl (by decide) rfl (by decide) ?_
        have hr55 : ra_in (ra_g s49 (180) 16) := (ra_in_g _ _ _)
        refine ra_store (L' := [_, _, _]) rfl rfl rfl (Nat.le_of_ble_eq_true rfl) rfl ?_
        refine ra_load rfl rfl rfl rfl ?_
        refine ra_load rfl rfl rfl rfl ?_
        refine ra_iconst rfl ?_
        refine ra_load rfl rfl rfl rfl ?_
        refine ra_getR rfl lk_8_7 (Nat.zero_le _) sh_179 rfl ?_
        refine ra_bipush rfl (by decide) ?_
        refine ra_ialoadJ (j := 18) rfl sh_180 rfl (by decide) rfl (by decide) ?_
        have hr56 : ra_in (ra_g s49 (180) 18) := (ra_in_g _ _ _)
        refine ra_cV (sp_200 hr55 (by first | omega | (unfold ra_in at *; omega)) hr56 (by first | assumption | rfl | omega)) rfl (ct_200 rfl lk_8_78 (Or.inl rfl) sh_179 (Nat.le_of_ble_eq_true rfl)) (fun s57 hs57 => ?_)
        obtain ⟨hf58, he59, he60⟩ := hs57
        have hF61 := Fr_tr (lo := 180) (hi := 181) hF50 hf58 (by omega)
        refine ra_load rfl rfl rfl rfl ?_
        refine ra_load rfl rfl rfl rfl ?_
        refine ra_bipush rfl (by decide) ?_
        refine ra_load rfl rfl rfl rfl ?_
        refine ra_load rfl rfl rfl rfl ?_
        refine ra_bipush rfl (by decide) ?_
        refine ra_cTp (sp_199 hr55 (by first | omega | (unfold ra_in at *; omega)) (by first | assumption | rfl | omega)) rfl (ct_199 rfl lk_8_67 (Or.inl rfl) sh_179 (Nat.le_of_ble_eq_true rfl)) ?_
        have hr63 : ra_in (wq s57 (ra_g s49 (180) 16) (7)) := (ra_in_wq _ _ _)
        refine ra_iconst rfl ?_
        refine ra_iadd rfl ?_
        refine ra_gen (fun z64 hz64 => ?_)
        refine ra_cV (sp_200 hr55 (by first | omega | (unfold ra_in at *; omega)) hz64 (by first | assumption | rfl | omega)) rfl (ct_200 rfl lk_8_78 (Or.inl rfl) sh_179 (Nat.le_of_ble_eq_true rfl)) (fun s65 hs65 => ?_)
        obtain ⟨hf66, he67, he68⟩ := hs65
        have hF69 := Fr_tr (lo := 180) (hi := 181) hF61 hf66 (by omega)
        refine ra_load rfl rfl rfl rfl ?_
        refine ra_getR rfl lk_8_7 (Nat.zero_le _) sh_179 rfl ?_
        refine ra_bipush rfl (by decide) ?_
        refine ra_iconst rfl ?_
        refine ra_iastoreJ (j := 16) rfl sh_180 rfl (by decide) rfl (by decide) ?_
        refine ra_newR (by first | omega | (unfold ra_in at *; omega)) (fun s70 hs70 hs70v hs70o => ?_)
        have hF71 := Fr_tr (lo := 180) (hi := 181) hF69 hs70 (by omega)
        refine ra_load rfl rfl rfl rfl ?_
        refine ra_getR rfl lk_8_7 (Nat.zero_le _) sh_179 rfl ?_
        refine ra_bipush rfl (by decide) ?_
        refine ra_dup2 rfl rfl rfl ?_
        refine ra_ialoadJ (j := 8) rfl sh_180 rfl (by decide) rfl (by decide) ?_
        have hr72 : ra_in (ra_g s70 (180) 8) := (ra_in_g _ _ _)
        refine ra_iconst rfl ?_
        refine ra_iadd rfl ?_
        refine ra_gen (fun z73 hz73 => ?_)
        refine ra_iastoreJ (j := 8) rfl sh_180 rfl (by decide) rfl (by decide) ?_
        refine ra_newR hz73 (fun s74 hs74 hs74v hs74o => ?_)
        have hF75 := Fr_tr (lo := 180) (hi := 181) hF71 hs74 (by omega)
        exact ra_return rfl rfl ⟨rfl, ⟨hF75, mv_ec hw hmf hR4 rfl he59 he60 he68 hs70v hs70o hs74o, (fun p p0 p1 => ((hs74o _ (by omega)).trans ((hs70o _ (by omega)).trans ((he68 _ (by omega)).trans ((he60 _ (by omega)).trans ((hs49o _ (by omega)).trans ((hs45o _ (by omega)).trans ((hs11o _ (by omega)).trans (he7 _ (by omega))))))))))⟩⟩
      · exact ra_return rfl rfl ⟨rfl, ⟨hF50, mv_w hw hmf hR4 ⟨by have t := hs49v; omega, by omega⟩ (by have t := hs45v; have t2 := hs49o 22 (by decide); omega), (fun p p0 p1 => ((hs49o _ (by omega)).trans ((hs45o _ (by omega)).trans ((hs11o _ (by omega)).trans (he7 _ (by omega))))))⟩⟩
    · exact ra_return rfl rfl ⟨rfl, ⟨hF46, mv_w hw hmf hR3 ⟨by omega, by omega⟩ (by have t := hs45v; omega), (fun p p0 p1 => ((hs45o _ (by omega)).trans ((hs11o _ (by omega)).trans (he7 _ (by omega)))))⟩⟩
theorem lp_241_2 {n : Nat} {f : Nat → Int32} {d : Nat} {x0 : Int} {σ : ra_V} (hx0 : ra_in x0) (hw : WF σ) : ∀ (nn : Nat) (v2 : Int) (s : ra_V) (hv2_0 : 0 ≤ v2) (hv2_1 : ra_in v2) (hF : Fr (180) (181) σ s) (hws : WF s) (hex : ∀ p, 0 ≤ p → p < 8 → wq s p 0 = wq σ p 0) (hm : ((x0 - v2 : Int)).toNat < nn), ra_P (g_Gs n f) g_sh 0 (d + 9) g_m_X8_runs 2 [some (.index (179)), some (ra_I x0), some (ra_I v2)] [] s (fun r s => rI r ∧ Fr (180) (181) σ s ∧ WF s ∧ ∀ p, 0 ≤ p → p < 8 → wq s p 0 = wq σ p 0) := by
  intro nn
  induction nn with
  | zero => intro v2 s hv2_0 hv2_1 hF hws hex hm; exact absurd hm (Nat.not_lt_zero _)
  | succ nn ih =>
    intro v2 s hv2_0 hv2_1 hF hws hex hm
    refine ra_load rfl rfl rfl rfl ?_
    refine ra_load rfl rfl rfl rfl ?_
    refine ra_icge rfl rfl (by first | omega | (unfold ra_in at *; omega)) hx0 (fun h1 => ?_) (fun h1 => ?_)
    · refine ra_load rfl rfl rfl rfl ?_
      exact ra_ireturn rfl rfl ⟨⟨_, (by first | omega | (unfold ra_in at *; omega)), rfl⟩, ⟨hF, hws, hex⟩⟩
    · refine ra_load rfl rfl rfl rfl ?_
      refine ra_cQPp (sp_203 ) rfl (ct_203 rfl lk_8_95 (Or.inl rfl) sh_179 (Nat.le_of_ble_eq_true rfl)) (fun z3 hz3 hz3p => ?_)
      refine ra_ifeq rfl rfl (ra_in01 hz3) (fun h4 => ?_) (fun h4 => ?_)
      · refine ra_load rfl rfl rfl rfl ?_
        exact ra_ireturn rfl rfl ⟨⟨_, (by first | omega | (unfold ra_in at *; omega)), rfl⟩, ⟨hF, hws, hex⟩⟩
      · refine ra_load rfl rfl rfl rfl ?_
        refine ra_cV (sp_240 (MV_f hws (hz3p.mp (by omega))) hws) rfl (ct_240 rfl lk_8_177 (Or.inl rfl) sh_179 (Nat.le_of_ble_eq_true rfl)) (fun s5 hs5 => ?_)
        obtain ⟨hf6, he7, he8⟩ := hs5
        have hF9 := Fr_tr (lo := 180) (hi := 181) hF hf6 (by omega)
        refine ra_iinc (L' := [_, _, _]) rfl rfl (Nat.le_of_ble_eq_true rfl) rfl ?_
        refine ra_goto rfl rfl ?_
        exact ra_weak (by repeat' constructor) (ih (v2 + 1) s5 (by first | omega | (unfold ra_in at *; omega)) (by first | omega | (unfold ra_in at *; omega)) hF9 he7 (fun p p0 p1 => (he8 p p0 p1).trans (hex p p0 p1)) (by first | omega | (unfold ra_in at *; omega)))
theorem sp_241 {n : Nat} {f : Nat → Int32} {d : Nat} {x0 : Int} {σ : ra_V} (hx0 : ra_in x0) (hw : WF σ) : ra_C (g_Gs n f) g_sh 0 (d + 10) 241 [.index (179), ra_I x0] σ (fun r s => rI r ∧ Fr (180) (181) σ s ∧ WF s ∧ ∀ p, 0 ≤ p → p < 8 → wq s p 0 = wq σ p 0) := by
  refine ra_enter (nn := 1) mt_241 rfl (Nat.le_of_ble_eq_true rfl) rfl (fun h => absurd h (by decide +kernel)) ?_
  refine ra_iconst rfl ?_
  refine ra_store (L' := [_, _, _]) rfl rfl rfl (Nat.le_of_ble_eq_true rfl) rfl ?_
  exact ra_weak (by repeat' constructor) (lp_241_2 hx0 hw _ (0) σ (by first | omega | (unfold ra_in at *; omega)) (by first | omega | (unfold ra_in at *; omega)) Fr_rf hw (fun _ _ _ => rfl) (Nat.lt_succ_self _))
end RB
