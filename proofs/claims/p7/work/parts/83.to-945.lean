section
/-! the reference: what its methods do (printed by wip/gen/ref.py) -/
section RB
theorem sq_228 {n : Nat} {f : Nat → Int32} {d : Nat}  {σ : ra_V} (hm : MG σ) : ra_C (g_Gs n f) g_sh 0 (d + 2) 228 [.index (179)] σ (fun r s => r = .inl (some (ra_I (rch σ))) ∧ s = σ) := by
  refine ra_enter (nn := 0) mt_228 rfl (Nat.le_of_ble_eq_true rfl) rfl (fun h => absurd h (by decide +kernel)) ?_
  have hm0 := hm
  unfold MG at hm0
  refine ra_load rfl rfl rfl rfl ?_
  refine ra_load rfl rfl rfl rfl ?_
  refine ra_getR rfl lk_8_7 (Nat.zero_le _) sh_179 rfl ?_
  refine ra_bipush rfl (by decide) ?_
  refine ra_ialoadJ (j := 16) rfl sh_180 rfl (by decide) rfl (by decide) ?_
  have hr1 : ra_in (ra_g σ (180) 16) := (ra_in_g _ _ _)
  refine ra_iconst rfl ?_
  refine ra_cTp (sp_200 hr1 (by first | omega | (unfold ra_in at *; omega)) (by first | assumption | rfl | omega)) rfl (ct_200 rfl lk_8_67 (Or.inl rfl) sh_179 (Nat.le_of_ble_eq_true rfl)) ?_
  have hr3 : ra_in (wq σ (ra_g σ (180) 16) (2)) := (ra_in_wq _ _ _)
  refine ra_load rfl rfl rfl rfl ?_
  refine ra_getR rfl lk_8_7 (Nat.zero_le _) sh_179 rfl ?_
  refine ra_bipush rfl (by decide) ?_
  refine ra_ialoadJ (j := 19) rfl sh_180 rfl (by decide) rfl (by decide) ?_
  have hr4 : ra_in (ra_g σ (180) 19) := (ra_in_g _ _ _)
  refine ra_cTp (sp_207 hr3 hr4 (by first | assumption | rfl | omega)) rfl (ct_207 rfl lk_8_120 (Or.inl rfl) (Nat.le_of_ble_eq_true rfl)) ?_
  have hr6 : ra_in (((wq σ (ra_g σ (180) 16) (2)) + (ra_g σ (180) 19) - 1).tdiv (ra_g σ (180) 19)) := (ra_in_tdiv (by unfold ra_in; omega) (by omega))
  exact ra_ireturn rfl rfl ⟨(congrArg (fun z => Sum.inl (some (ra_I z))) rfl), rfl⟩
theorem sp_241 {n : Nat} {f : Nat → Int32} {d : Nat}  {σ : ra_V} (hmf : MF σ) (hw : WF σ) : ra_C (g_Gs n f) g_sh 0 (d + 9) 241 [.index (179)] σ (fun r s => rV r ∧ Fr (180) (181) σ s ∧ WF s ∧ ∀ p, 0 ≤ p → p < 8 → wq s p 0 = wq σ p 0) := by
  refine ra_enter (nn := 2) mt_241 rfl (Nat.le_of_ble_eq_true rfl) rfl (fun h => absurd h (by decide +kernel)) ?_
  have hm0 := hmf
  unfold MF at hm0
  refine ra_load rfl rfl rfl rfl ?_
  refine ra_cIPp (sp_236 hmf) rfl (ct_236 rfl lk_8_165 (Or.inl rfl) sh_179 (Nat.le_of_ble_eq_true rfl)) (fun z2 hz2 hz2p => ?_)
  refine ra_store (L' := [_, _, _]) rfl rfl rfl (Nat.le_of_ble_eq_true rfl) rfl ?_
  refine ra_load rfl rfl rfl rfl ?_
  refine ra_load rfl rfl rfl rfl ?_
  refine ra_cTp (sp_234 hmf) rfl (ct_234 rfl lk_8_162 (Or.inl rfl) sh_179 (Nat.le_of_ble_eq_true rfl)) ?_
  have hr4 : ra_in (rbn σ) := (by first | omega | (unfold ra_in at *; omega))
  refine ra_cV (sp_239 hr4 hmf (by first | assumption | rfl | omega)) rfl (ct_239 rfl lk_8_174 (Or.inl rfl) sh_179 (Nat.le_of_ble_eq_true rfl)) (fun s5 hs5 => ?_)
  obtain ⟨hf6, he7⟩ := hs5
  have hF8 := Fr_tr (lo := 180) (hi := 181) Fr_rf hf6 (by omega)
  refine ra_load rfl rfl rfl rfl ?_
  refine ra_getR rfl lk_8_7 (Nat.zero_le _) sh_179 rfl ?_
  refine ra_bipush rfl (by decide) ?_
  refine ra_dup2 rfl rfl rfl ?_
  refine ra_ialoadJ (j := 6) rfl sh_180 rfl (by decide) rfl (by decide) ?_
  have hr9 : ra_in (ra_g s5 (180) 6) := (ra_in_g _ _ _)
  refine ra_iconst rfl ?_
  refine ra_iadd rfl ?_
  refine ra_gen (fun z10 hz10 => ?_)
  refine ra_iastoreJ (j := 6) rfl sh_180 rfl (by decide) rfl (by decide) ?_
  refine ra_newR hz10 (fun s11 hs11 hs11v hs11o => ?_)
  have hF12 := Fr_tr (lo := 180) (hi := 181) hF8 hs11 (by omega)
  refine ra_load rfl rfl rfl rfl ?_
  refine ra_getR rfl lk_8_7 (Nat.zero_le _) sh_179 rfl ?_
  refine ra_bipush rfl (by decide) ?_
  refine ra_load rfl rfl rfl rfl ?_
  refine ra_iconst rfl ?_
  refine ra_icne rfl rfl hz2 (by first | omega | (unfold ra_in at *; omega)) (fun h13 => ?_) (fun h13 => ?_)
  · refine ra_iconst rfl ?_
    refine ra_iastoreJ (j := 22) rfl sh_180 rfl (by decide) rfl (by decide) ?_
    refine ra_newR (by first | omega | (unfold ra_in at *; omega)) (fun s14 hs14 hs14v hs14o => ?_)
    have hF15 := Fr_tr (lo := 180) (hi := 181) hF12 hs14 (by omega)
    have hR3 := st_rel he7 hs11o hs14o
    have e21 : ra_g s14 180 21 = ra_g σ 180 21 := (hs14o 21 (by decide)).trans ((hs11o 21 (by decide)).trans (he7 21 (by omega)))
    refine ra_load rfl rfl rfl rfl ?_
    refine ra_iconst rfl ?_
    refine ra_icne rfl rfl hz2 (by first | omega | (unfold ra_in at *; omega)) (fun h16 => ?_) (fun h16 => ?_)
    · refine ra_load rfl rfl rfl rfl ?_
      refine ra_getR rfl lk_8_7 (Nat.zero_le _) sh_179 rfl ?_
      refine ra_bipush rfl (by decide) ?_
      refine ra_dup2 rfl rfl rfl ?_
      refine ra_ialoadJ (j := 21) rfl sh_180 rfl (by decide) rfl (by decide) ?_
      have hr17 : ra_in (ra_g s14 (180) 21) := (ra_in_g _ _ _)
      refine ra_iconst rfl ?_
      refine ra_iadd rfl ?_
      refine ra_iastoreJ (j := 21) rfl sh_180 rfl (by decide) rfl (by decide) ?_
      refine ra_newR (by first | omega | (unfold ra_in at *; omega)) (fun s18 hs18 hs18v hs18o => ?_)
      have hF19 := Fr_tr (lo := 180) (hi := 181) hF15 hs18 (by omega)
      refine ra_load rfl rfl rfl rfl ?_
      refine ra_getR rfl lk_8_7 (Nat.zero_le _) sh_179 rfl ?_
      refine ra_bipush rfl (by decide) ?_
      refine ra_ialoadJ (j := 21) rfl sh_180 rfl (by decide) rfl (by decide) ?_
      have hr20 : ra_in (ra_g s18 (180) 21) := (ra_in_g _ _ _)
      have hR4 := st_rel2 hR3 hs18o
      have hG := mg_r hmf hR4
      have hG1 := hG.1
      have hG3 := hG.2.2.2
      refine ra_load rfl rfl rfl rfl ?_
      refine ra_cTp (sq_228 hG.2.2.1) rfl (ct_228 rfl lk_8_150 (Or.inl rfl) sh_179 (Nat.le_of_ble_eq_true rfl)) ?_
      have hr22 : ra_in (rch s18) := (by first | omega | (unfold ra_in at *; omega))
      refine ra_icge rfl rfl hr20 hr22 (fun h23 => ?_) (fun h23 => ?_)
      · refine ra_load rfl rfl rfl rfl ?_
        refine ra_getR rfl lk_8_7 (Nat.zero_le _) sh_179 rfl ?_
        refine ra_bipush rfl (by decide) ?_
        refine ra_ialoadJ (j := 16) rfl sh_180 rfl (by decide) rfl (by decide) ?_
        have hr24 : ra_in (ra_g s18 (180) 16) := (ra_in_g _ _ _)
        refine ra_store (L' := [_, _, _]) rfl rfl rfl (Nat.le_of_ble_eq_true rfl) rfl ?_
        refine ra_load rfl rfl rfl rfl ?_
        refine ra_load rfl rfl rfl rfl ?_
        refine ra_iconst rfl ?_
        refine ra_load rfl rfl rfl rfl ?_
        refine ra_getR rfl lk_8_7 (Nat.zero_le _) sh_179 rfl ?_
        refine ra_bipush rfl (by decide) ?_
        refine ra_ialoadJ (j := 18) rfl sh_180 rfl (by decide) rfl (by decide) ?_
        have hr25 : ra_in (ra_g s18 (180) 18) := (ra_in_g _ _ _)
        refine ra_cV (sp_201 hr24 (by first | omega | (unfold ra_in at *; omega)) hr25 (by first | assumption | rfl | omega)) rfl (ct_201 rfl lk_8_78 (Or.inl rfl) sh_179 (Nat.le_of_ble_eq_true rfl)) (fun s26 hs26 => ?_)
        obtain ⟨hf27, he28, he29⟩ := hs26
        have hF30 := Fr_tr (lo := 180) (hi := 181) hF19 hf27 (by omega)
        refine ra_load rfl rfl rfl rfl ?_
        refine ra_load rfl rfl rfl rfl ?_
        refine ra_bipush rfl (by decide) ?_
        refine ra_load rfl rfl rfl rfl ?_
        refine ra_load rfl rfl rfl rfl ?_
        refine ra_bipush rfl (by decide) ?_
        refine ra_cTp (sp_200 hr24 (by first | omega | (unfold ra_in at *; omega)) (by first | assumption | rfl | omega)) rfl (ct_200 rfl lk_8_67 (Or.inl rfl) sh_179 (Nat.le_of_ble_eq_true rfl)) ?_
        have hr32 : ra_in (wq s26 (ra_g s18 (180) 16) (7)) := (ra_in_wq _ _ _)
        refine ra_iconst rfl ?_
        refine ra_iadd rfl ?_
        refine ra_gen (fun z33 hz33 => ?_)
        refine ra_cV (sp_201 hr24 (by first | omega | (unfold ra_in at *; omega)) hz33 (by first | assumption | rfl | omega)) rfl (ct_201 rfl lk_8_78 (Or.inl rfl) sh_179 (Nat.le_of_ble_eq_true rfl)) (fun s34 hs34 => ?_)
        obtain ⟨hf35, he36, he37⟩ := hs34
        have hF38 := Fr_tr (lo := 180) (hi := 181) hF30 hf35 (by omega)
        refine ra_load rfl rfl rfl rfl ?_
        refine ra_getR rfl lk_8_7 (Nat.zero_le _) sh_179 rfl ?_
        refine ra_bipush rfl (by decide) ?_
        refine ra_iconst rfl ?_
        refine ra_iastoreJ (j := 16) rfl sh_180 rfl (by decide) rfl (by decide) ?_
        refine ra_newR (by first | omega | (unfold ra_in at *; omega)) (fun s39 hs39 hs39v hs39o => ?_)
        have hF40 := Fr_tr (lo := 180) (hi := 181) hF38 hs39 (by omega)
        refine ra_load rfl rfl rfl rfl ?_
        refine ra_getR rfl lk_8_7 (Nat.zero_le _) sh_179 rfl ?_
        refine ra_bipush rfl (by decide) ?_
        refine ra_dup2 rfl rfl rfl ?_
        refine ra_ialoadJ (j := 8) rfl sh_180 rfl (by decide) rfl (by decide) ?_
        have hr41 : ra_in (ra_g s39 (180) 8) := (ra_in_g _ _ _)
        refine ra_iconst rfl ?_
        refine ra_iadd rfl ?_
        refine ra_gen (fun z42 hz42 => ?_)
        refine ra_iastoreJ (j := 8) rfl sh_180 rfl (by decide) rfl (by decide) ?_
        refine ra_newR hz42 (fun s43 hs43 hs43v hs43o => ?_)
        have hF44 := Fr_tr (lo := 180) (hi := 181) hF40 hs43 (by omega)
        exact ra_return rfl rfl ⟨rfl, ⟨hF44, mv_ec hw hmf hR4 rfl he28 he29 he37 hs39v hs39o hs43o, (fun p p0 p1 => ((hs43o _ (by omega)).trans ((hs39o _ (by omega)).trans ((he37 _ (by omega)).trans ((he29 _ (by omega)).trans ((hs18o _ (by omega)).trans ((hs14o _ (by omega)).trans ((hs11o _ (by omega)).trans (he7 _ (by omega))))))))))⟩⟩
      · exact ra_return rfl rfl ⟨rfl, ⟨hF19, mv_w hw hmf hR4 ⟨by have t := hs18v; omega, by omega⟩ (by have t := hs14v; have t2 := hs18o 22 (by decide); omega), (fun p p0 p1 => ((hs18o _ (by omega)).trans ((hs14o _ (by omega)).trans ((hs11o _ (by omega)).trans (he7 _ (by omega))))))⟩⟩
    · exact ra_return rfl rfl ⟨rfl, ⟨hF15, mv_w hw hmf hR3 ⟨by omega, by omega⟩ (by have t := hs14v; omega), (fun p p0 p1 => ((hs14o _ (by omega)).trans ((hs11o _ (by omega)).trans (he7 _ (by omega)))))⟩⟩
  · refine ra_iconst rfl ?_
    refine ra_goto rfl rfl ?_
    refine ra_iastoreJ (j := 22) rfl sh_180 rfl (by decide) rfl (by decide) ?_
    refine ra_newR (by first | omega | (unfold ra_in at *; omega)) (fun s45 hs45 hs45v hs45o => ?_)
    have hF46 := Fr_tr (lo := 180) (hi := 181) hF12 hs45 (by omega)
    have hR3 := st_rel he7 hs11o hs45o
    have e21 : ra_g s45 180 21 = ra_g σ 180 21 := (hs45o 21 (by decide)).trans ((hs11o 21 (by decide)).trans (he7 21 (by omega)))
    refine ra_load rfl rfl rfl rfl ?_
    refine ra_iconst rfl ?_
    refine ra_icne rfl rfl hz2 (by first | omega | (unfold ra_in at *; omega)) (fun h47 => ?_) (fun h47 => ?_)
    · refine ra_load rfl rfl rfl rfl ?_
      refine ra_getR rfl lk_8_7 (Nat.zero_le _) sh_179 rfl ?_
      refine ra_bipush rfl (by decide) ?_
      refine ra_dup2 rfl rfl rfl ?_
      refine ra_ialoadJ (j := 21) rfl sh_180 rfl (by decide) rfl (by decide) ?_
      have hr48 : ra_in (ra_g s45 (180) 21) := (ra_in_g _ _ _)
      refine ra_iconst rfl ?_
      refine ra_iadd rfl ?_
      refine ra_iastoreJ (j := 21) rfl sh_180 rfl (by decide) rfl (by decide) ?_
      refine ra_newR (by first | omega | (unfold ra_in at *; omega)) (fun s49 hs49 hs49v hs49o => ?_)
      have hF50 := Fr_tr (lo := 180) (hi := 181) hF46 hs49 (by omega)
      refine ra_load rfl rfl rfl rfl ?_
      refine ra_getR rfl lk_8_7 (Nat.zero_le _) sh_179 rfl ?_
      refine ra_bipush rfl (by decide) ?_
      refine ra_ialoadJ (j := 21) rfl sh_180 rfl (by decide) rfl (by decide) ?_
      have hr51 : ra_in (ra_g s49 (180) 21) := (ra_in_g _ _ _)
      have hR4 := st_rel2 hR3 hs49o
      have hG := mg_r hmf hR4
      have hG1 := hG.1
      have hG3 := hG.2.2.2
      refine ra_load rfl rfl rfl rfl ?_
      refine ra_cTp (sq_228 hG.2.2.1) rfl (ct_228 rfl lk_8_150 (Or.inl rfl) sh_179 (Nat.le_of_ble_eq_true rfl)) ?_
      have hr53 : ra_in (rch s49) := (by first | omega | (unfold ra_in at *; omega))
      refine ra_icge rfl rfl hr51 hr53 (fun h54 => ?_) (fun h54 => ?_)
      · refine ra_load rfl rfl rfl rfl ?_
        refine ra_getR rfl lk_8_7 (Nat.zero_le _) sh_179 rfl ?_
        refine ra_bipush rfl (by decide) ?_
        refine ra_ialoadJ (j := 16) rfl sh_180 rfl (by decide) rfl (by decide) ?_
        have hr55 : ra_in (ra_g s49 (180) 16) := (ra_in_g _ _ _)
        refine ra_store (L' := [_, _, _]) rfl rfl rfl (Nat.le_of_ble_eq_true rfl) rfl ?_
        refine ra_load rfl rfl rfl rfl ?_
        refine ra_load rfl rfl rfl rfl ?_
        refine ra_iconst rfl ?_
        refine ra_load rfl rfl rfl rfl ?_
        refine ra_getR rfl lk_8_7 (Nat.zero_le _) sh_179 rfl ?_
        refine ra_bipush rfl (by decide) ?_
        refine ra_ialoadJ (j := 18) rfl sh_180 rfl (by decide) rfl (by decide) ?_
        have hr56 : ra_in (ra_g s49 (180) 18) := (ra_in_g _ _ _)
        refine ra_cV (sp_201 hr55 (by first | omega | (unfold ra_in at *; omega)) hr56 (by first | assumption | rfl | omega)) rfl (ct_201 rfl lk_8_78 (Or.inl rfl) sh_179 (Nat.le_of_ble_eq_true rfl)) (fun s57 hs57 => ?_)
        obtain ⟨hf58, he59, he60⟩ := hs57
        have hF61 := Fr_tr (lo := 180) (hi := 181) hF50 hf58 (by omega)
        refine ra_load rfl rfl rfl rfl ?_
        refine ra_load rfl rfl rfl rfl ?_
        refine ra_bipush rfl (by decide) ?_
        refine ra_load rfl rfl rfl rfl ?_
        refine ra_load rfl rfl rfl rfl ?_
        refine ra_bipush rfl (by decide) ?_
        refine ra_cTp (sp_200 hr55 (by first | omega | (unfold ra_in at *; omega)) (by first | assumption | rfl | omega)) rfl (ct_200 rfl lk_8_67 (Or.inl rfl) sh_179 (Nat.le_of_ble_eq_true rfl)) ?_
        have hr63 : ra_in (wq s57 (ra_g s49 (180) 16) (7)) := (ra_in_wq _ _ _)
        refine ra_iconst rfl ?_
        refine ra_iadd rfl ?_
        refine ra_gen (fun z64 hz64 => ?_)
        refine ra_cV (sp_201 hr55 (by first | omega | (unfold ra_in at *; omega)) hz64 (by first | assumption | rfl | omega)) rfl (ct_201 rfl lk_8_78 (Or.inl rfl) sh_179 (Nat.le_of_ble_eq_true rfl)) (fun s65 hs65 => ?_)
        obtain ⟨hf66, he67, he68⟩ := hs65
        have hF69 := Fr_tr (lo := 180) (hi := 181) hF61 hf66 (by omega)
        refine ra_load rfl rfl rfl rfl ?_
        refine ra_getR rfl lk_8_7 (Nat.zero_le _) sh_179 rfl ?_
        refine ra_bipush rfl (by decide) ?_
        refine ra_iconst rfl ?_
        refine ra_iastoreJ (j := 16) rfl sh_180 rfl (by decide) rfl (by decide) ?_
        refine ra_newR (by first | omega | (unfold ra_in at *; omega)) (fun s70 hs70 hs70v hs70o => ?_)
        have hF71 := Fr_tr (lo := 180) (hi := 181) hF69 hs70 (by omega)
        refine ra_load rfl rfl rfl rfl ?_
        refine ra_getR rfl lk_8_7 (Nat.zero_le _) sh_179 rfl ?_
        refine ra_bipush rfl (by decide) ?_
        refine ra_dup2 rfl rfl rfl ?_
        refine ra_ialoadJ (j := 8) rfl sh_180 rfl (by decide) rfl (by decide) ?_
        have hr72 : ra_in (ra_g s70 (180) 8) := (ra_in_g _ _ _)
        refine ra_iconst rfl ?_
        refine ra_iadd rfl ?_
        refine ra_gen (fun z73 hz73 => ?_)
        refine ra_iastoreJ (j := 8) rfl sh_180 rfl (by decide) rfl (by decide) ?_
        refine ra_newR hz73 (fun s74 hs74 hs74v hs74o => ?_)
        have hF75 := Fr_tr (lo := 180) (hi := 181) hF71 hs74 (by omega)
        exact ra_return rfl rfl ⟨rfl, ⟨hF75, mv_ec hw hmf hR4 rfl he59 he60 he68 hs70v hs70o hs74o, (fun p p0 p1 => ((hs74o _ (by omega)).trans ((hs70o _ (by omega)).trans ((he68 _ (by omega)).trans ((he60 _ (by omega)).trans ((hs49o _ (by omega)).trans ((hs45o _ (by omega)).trans ((hs11o _ (by omega)).trans (he7 _ (by omega))))))))))⟩⟩
      · exact ra_return rfl rfl ⟨rfl, ⟨hF50, mv_w hw hmf hR4 ⟨by have t := hs49v; omega, by omega⟩ (by have t := hs45v; have t2 := hs49o 22 (by decide); omega), (fun p p0 p1 => ((hs49o _ (by omega)).trans ((hs45o _ (by omega)).trans ((hs11o _ (by omega)).trans (he7 _ (by omega))))))⟩⟩
    · exact ra_return rfl rfl ⟨rfl, ⟨hF46, mv_w hw hmf hR3 ⟨by omega, by omega⟩ (by have t := hs45v; omega), (fun p p0 p1 => ((hs45o _ (by omega)).trans ((hs11o _ (by omega)).trans (he7 _ (by omega)))))⟩⟩
theorem lp_242_2 {n : Nat} {f : Nat → Int32} {d : Nat} {x0 : Int} {σ : ra_V} (hx0 : ra_in x0) (hw : WF σ) : ∀ (nn : Nat) (v2 : Int) (s : ra_V) (hv2_0 : 0 ≤ v2) (hv2_1 : ra_in v2) (hF : Fr (180) (181) σ s) (hws : WF s) (hex : ∀ p, 0 ≤ p → p < 8 → wq s p 0 = wq σ p 0) (hm : ((x0 - v2 : Int)).toNat < nn), ra_P (g_Gs n f) g_sh 0 (d + 9) g_m_X8_runs 2 [some (.index (179)), some (ra_I x0), some (ra_I v2)] [] s (fun r s => rI r ∧ Fr (180) (181) σ s ∧ WF s ∧ ∀ p, 0 ≤ p → p < 8 → wq s p 0 = wq σ p 0) := by
  intro nn
  induction nn with
  | zero => intro v2 s hv2_0 hv2_1 hF hws hex hm; exact absurd hm (Nat.not_lt_zero _)
  | succ nn ih =>
    intro v2 s hv2_0 hv2_1 hF hws hex hm
    refine ra_load rfl rfl rfl rfl ?_
    refine ra_load rfl rfl rfl rfl ?_
    refine ra_icge rfl rfl (by first | omega | (unfold ra_in at *; omega)) hx0 (fun h1 => ?_) (fun h1 => ?_)
    · refine ra_load rfl rfl rfl rfl ?_
      exact ra_ireturn rfl rfl ⟨⟨_, (by first | omega | (unfold ra_in at *; omega)), rfl⟩, ⟨hF, hws, hex⟩⟩
    · refine ra_load rfl rfl rfl rfl ?_
      refine ra_cQPp (sp_204 ) rfl (ct_204 rfl lk_8_95 (Or.inl rfl) sh_179 (Nat.le_of_ble_eq_true rfl)) (fun z3 hz3 hz3p => ?_)
      refine ra_ifeq rfl rfl (ra_in01 hz3) (fun h4 => ?_) (fun h4 => ?_)
      · refine ra_load rfl rfl rfl rfl ?_
        exact ra_ireturn rfl rfl ⟨⟨_, (by first | omega | (unfold ra_in at *; omega)), rfl⟩, ⟨hF, hws, hex⟩⟩
      · refine ra_load rfl rfl rfl rfl ?_
        refine ra_cV (sp_241 (MV_f hws (hz3p.mp (by omega))) hws) rfl (ct_241 rfl lk_8_177 (Or.inl rfl) sh_179 (Nat.le_of_ble_eq_true rfl)) (fun s5 hs5 => ?_)
        obtain ⟨hf6, he7, he8⟩ := hs5
        have hF9 := Fr_tr (lo := 180) (hi := 181) hF hf6 (by omega)
        refine ra_iinc (L' := [_, _, _]) rfl rfl (Nat.le_of_ble_eq_true rfl) rfl ?_
        refine ra_goto rfl rfl ?_
        exact ra_weak (by repeat' constructor) (ih (v2 + 1) s5 (by first | omega | (unfold ra_in at *; omega)) (by first | omega | (unfold ra_in at *; omega)) hF9 he7 (fun p p0 p1 => (he8 p p0 p1).trans (hex p p0 p1)) (by first | omega | (unfold ra_in at *; omega)))
theorem sp_242 {n : Nat} {f : Nat → Int32} {d : Nat} {x0 : Int} {σ : ra_V} (hx0 : ra_in x0) (hw : WF σ) : ra_C (g_Gs n f) g_sh 0 (d + 10) 242 [.index (179), ra_I x0] σ (fun r s => rI r ∧ Fr (180) (181) σ s ∧ WF s ∧ ∀ p, 0 ≤ p → p < 8 → wq s p 0 = wq σ p 0) := by
  refine ra_enter (nn := 1) mt_242 rfl (Nat.le_of_ble_eq_true rfl) rfl (fun h => absurd h (by decide +kernel)) ?_
  refine ra_iconst rfl ?_
  refine ra_store (L' := [_, _, _]) rfl rfl rfl (Nat.le_of_ble_eq_true rfl) rfl ?_
  exact ra_weak (by repeat' constructor) (lp_242_2 hx0 hw _ (0) σ (by first | omega | (unfold ra_in at *; omega)) (by first | omega | (unfold ra_in at *; omega)) Fr_rf hw (fun _ _ _ => rfl) (Nat.lt_succ_self _))
end RB
end
section
/-! the reference: what its methods do (printed by wip/gen/ref.py) -/
section RB
theorem sp_319 {n : Nat} {f : Nat → Int32} {d : Nat} {x0 : Int} {σ : ra_V} (hx0 : ra_in x0) (hw : WF σ) (hpw : PW σ) : ra_C (g_Gs n f) g_sh 0 (d + 11) 319 [.index (179), ra_I x0] σ (fun r s => rI r ∧ Fr (179) (191) σ s ∧ s (183) = σ (183) ∧ s (187) = σ (187) ∧ (∀ a, a ≠ 5 → a ≠ 7 → a ≠ 10 → ra_g s 179 a = ra_g σ 179 a) ∧ WF s ∧ PW s) := by
  refine ra_enter (nn := 0) mt_319 rfl (Nat.le_of_ble_eq_true rfl) rfl (fun h => absurd h (by decide +kernel)) ?_
  have hw0 := WF_a hw
  unfold WFa at hw0
  refine ra_load rfl rfl rfl rfl ?_
  refine ra_iconst rfl ?_
  refine ra_putI rfl lk_8_51 (Nat.zero_le _) sh_179 rfl rfl ?_
  refine ra_newU (by first | omega | (unfold ra_in at *; omega)) (fun s1 hs1 hp2 hp2o => ?_)
  have hp2_99 := hp2o 99 (by decide)
  have hF3 := Fr_tr (lo := 179) (hi := 191) Fr_rf hs1 (by omega)
  have hk4 : s1 (180) = σ (180) := (hs1 (180) (by omega))
  have hk5 : s1 (183) = σ (183) := (hs1 (183) (by omega))
  have hk6 : s1 (184) = σ (184) := (hs1 (184) (by omega))
  have hk7 : s1 (187) = σ (187) := (hs1 (187) (by omega))
  have hg8 : ∀ a, a ≠ 5 → a ≠ 7 → a ≠ 10 → ra_g s1 179 a = ra_g σ 179 a := fun a h5 h7 h10 => ((fun a h7 h10 => hp2o a h7) a h7 h10).trans ((fun _ _ _ _ => rfl) a h5 h7 h10)
  have ho9 : ∀ a, a ≠ 7 → a ≠ 10 → ra_g s1 179 a = ra_g σ 179 a := fun a h7 h10 => ((fun a h7 h10 => hp2o a h7) a h7 h10).trans ((fun _ _ _ => rfl) a h7 h10)
  refine ra_load rfl rfl rfl rfl ?_
  refine ra_load rfl rfl rfl rfl ?_
  refine ra_i2l rfl hx0 ?_
  refine ra_lconst1 rfl ?_
  refine ra_ldc2 (z := 999) rfl lk_8_397 (by decide) ?_
  refine ra_cTp (sp_193 hx0 (by first | omega | (unfold ra_in at *; omega)) (by first | omega | (unfold ra_in at *; omega))) rfl (ct_193 rfl lk_8_63 (Or.inl rfl) (Nat.le_of_ble_eq_true rfl)) ?_
  refine ra_ifneB rfl rfl (fun h11 => ?_) (fun h11 => ?_)
  · refine ra_iconst rfl ?_
    refine ra_iconst rfl ?_
    refine ra_cT (sp_194 (Or.inl rfl) (by first | omega | (unfold ra_in at *; omega))) rfl (ct_194 rfl lk_8_303 (Or.inl rfl) sh_179 (Nat.le_of_ble_eq_true rfl)) (fun s12 hs12 => ?_)
    obtain ⟨hf13, he14⟩ := hs12
    have hF15 := Fr_tr (lo := 179) (hi := 191) hF3 hf13 (by omega)
    have hk16 : s12 (180) = σ (180) := (hf13 (180) (by omega)).trans hk4
    have hk17 : s12 (183) = σ (183) := (hf13 (183) (by omega)).trans hk5
    have hk18 : s12 (184) = σ (184) := (hf13 (184) (by omega)).trans hk6
    have hk19 : s12 (187) = σ (187) := (hf13 (187) (by omega)).trans hk7
    have hg20 : ∀ a, a ≠ 5 → a ≠ 7 → a ≠ 10 → ra_g s12 179 a = ra_g σ 179 a := fun a h5 h7 h10 => ((fun a h7 h10 => he14 a h7) a h7 h10).trans (hg8 a h5 h7 h10)
    have ho21 : ∀ a, a ≠ 7 → a ≠ 10 → ra_g s12 179 a = ra_g σ 179 a := fun a h7 h10 => ((fun a h7 h10 => he14 a h7) a h7 h10).trans (ho9 a h7 h10)
    refine ra_ifne rfl rfl (by first | omega | (unfold ra_in at *; omega)) (fun h22 => ?_) (fun h22 => ?_)
    · exact absurd h22 (by decide)
    · refine ra_load rfl rfl rfl rfl ?_
      refine ra_load rfl rfl rfl rfl ?_
      refine ra_cQPp (sp_204 ) rfl (ct_204 rfl lk_8_95 (Or.inl rfl) sh_179 (Nat.le_of_ble_eq_true rfl)) (fun z24 hz24 hz24p => ?_)
      refine ra_ifne rfl rfl (ra_in01 hz24) (fun h25 => ?_) (fun h25 => ?_)
      · refine ra_iconst rfl ?_
        refine ra_iconst rfl ?_
        refine ra_cT (sp_194 (Or.inl rfl) (by first | omega | (unfold ra_in at *; omega))) rfl (ct_194 rfl lk_8_303 (Or.inl rfl) sh_179 (Nat.le_of_ble_eq_true rfl)) (fun s26 hs26 => ?_)
        obtain ⟨hf27, he28⟩ := hs26
        have hF29 := Fr_tr (lo := 179) (hi := 191) hF15 hf27 (by omega)
        have hk30 : s26 (180) = σ (180) := (hf27 (180) (by omega)).trans hk16
        have hk31 : s26 (183) = σ (183) := (hf27 (183) (by omega)).trans hk17
        have hk32 : s26 (184) = σ (184) := (hf27 (184) (by omega)).trans hk18
        have hk33 : s26 (187) = σ (187) := (hf27 (187) (by omega)).trans hk19
        have hg34 : ∀ a, a ≠ 5 → a ≠ 7 → a ≠ 10 → ra_g s26 179 a = ra_g σ 179 a := fun a h5 h7 h10 => ((fun a h7 h10 => he28 a h7) a h7 h10).trans (hg20 a h5 h7 h10)
        have ho35 : ∀ a, a ≠ 7 → a ≠ 10 → ra_g s26 179 a = ra_g σ 179 a := fun a h7 h10 => ((fun a h7 h10 => he28 a h7) a h7 h10).trans (ho21 a h7 h10)
        refine ra_ifeq rfl rfl (by first | omega | (unfold ra_in at *; omega)) (fun h36 => ?_) (fun h36 => ?_)
        · refine ra_load rfl rfl rfl rfl ?_
          refine ra_cV (sp_197 (WF_k hk30 hw) (PW_k hpw (ho35 5 (by decide) (by decide)) hk32)) rfl (ct_197 rfl lk_8_366 (Or.inl rfl) sh_179 (Nat.le_of_ble_eq_true rfl)) (fun s37 hs37 => ?_)
          obtain ⟨hf38, hc39, hc40, hc41, hc42, he43, he44⟩ := hs37
          have hF45 := Fr_tr (lo := 179) (hi := 191) hF29 hf38 (by omega)
          have hk46 : s37 (180) = σ (180) := hc39.trans hk30
          have hk47 : s37 (183) = σ (183) := hc42.trans hk31
          have hk48 : s37 (187) = σ (187) := (hf38 (187) (by omega)).trans hk33
          have hg49 : ∀ a, a ≠ 5 → a ≠ 7 → a ≠ 10 → ra_g s37 179 a = ra_g σ 179 a := fun a h5 h7 h10 => ((fun a h5 h7 h10 => he43 a h5) a h5 h7 h10).trans (hg34 a h5 h7 h10)
          refine ra_load rfl rfl rfl rfl ?_
          refine ra_load rfl rfl rfl rfl ?_
          refine ra_cI (sp_242 hx0 (WF_k hk46 hw)) rfl (ct_242 rfl lk_8_399 (Or.inl rfl) sh_179 (Nat.le_of_ble_eq_true rfl)) (fun z51 s50  hz51 hs50 => ?_)
          obtain ⟨hf52, he53, he54⟩ := hs50
          have hF55 := Fr_tr (lo := 179) (hi := 191) hF45 hf52 (by omega)
          have hk56 : s50 (183) = σ (183) := (hf52 (183) (by omega)).trans hk47
          have hk57 : s50 (187) = σ (187) := (hf52 (187) (by omega)).trans hk48
          have hg58 : ∀ a, a ≠ 5 → a ≠ 7 → a ≠ 10 → ra_g s50 179 a = ra_g σ 179 a := fun a h5 h7 h10 => (ra_gk (hf52 179 (by omega))).trans (hg49 a h5 h7 h10)
          exact ra_ireturn rfl rfl ⟨⟨_, hz51, rfl⟩, ⟨hF55, hk56, hk57, hg58, he53, (PW_k he44 (ra_gk (hf52 179 (by omega))) (hf52 184 (by omega)))⟩⟩
        · exact absurd h36 (by decide)
      · refine ra_iconst rfl ?_
        refine ra_goto rfl rfl ?_
        refine ra_iconst rfl ?_
        refine ra_cT (sp_194 (Or.inr rfl) (by first | omega | (unfold ra_in at *; omega))) rfl (ct_194 rfl lk_8_303 (Or.inl rfl) sh_179 (Nat.le_of_ble_eq_true rfl)) (fun s59 hs59 => ?_)
        obtain ⟨hf60, he61⟩ := hs59
        have hF62 := Fr_tr (lo := 179) (hi := 191) hF15 hf60 (by omega)
        have hk63 : s59 (180) = σ (180) := (hf60 (180) (by omega)).trans hk16
        have hk64 : s59 (183) = σ (183) := (hf60 (183) (by omega)).trans hk17
        have hk65 : s59 (184) = σ (184) := (hf60 (184) (by omega)).trans hk18
        have hk66 : s59 (187) = σ (187) := (hf60 (187) (by omega)).trans hk19
        have hg67 : ∀ a, a ≠ 5 → a ≠ 7 → a ≠ 10 → ra_g s59 179 a = ra_g σ 179 a := fun a h5 h7 h10 => ((fun a h7 h10 => he61 a h7) a h7 h10).trans (hg20 a h5 h7 h10)
        have ho68 : ∀ a, a ≠ 7 → a ≠ 10 → ra_g s59 179 a = ra_g σ 179 a := fun a h7 h10 => ((fun a h7 h10 => he61 a h7) a h7 h10).trans (ho21 a h7 h10)
        refine ra_ifeq rfl rfl (by first | omega | (unfold ra_in at *; omega)) (fun h69 => ?_) (fun h69 => ?_)
        · exact absurd h69 (by decide)
        · refine ra_iconst rfl ?_
          exact ra_ireturn rfl rfl ⟨⟨_, (by first | omega | (unfold ra_in at *; omega)), rfl⟩, ⟨hF62, hk64, hk66, hg67, (WF_k hk63 hw), (PW_k hpw (ho68 5 (by decide) (by decide)) hk65)⟩⟩
  · refine ra_iconst rfl ?_
    refine ra_goto rfl rfl ?_
    refine ra_iconst rfl ?_
    refine ra_cT (sp_194 (Or.inr rfl) (by first | omega | (unfold ra_in at *; omega))) rfl (ct_194 rfl lk_8_303 (Or.inl rfl) sh_179 (Nat.le_of_ble_eq_true rfl)) (fun s70 hs70 => ?_)
    obtain ⟨hf71, he72⟩ := hs70
    have hF73 := Fr_tr (lo := 179) (hi := 191) hF3 hf71 (by omega)
    have hk74 : s70 (180) = σ (180) := (hf71 (180) (by omega)).trans hk4
    have hk75 : s70 (183) = σ (183) := (hf71 (183) (by omega)).trans hk5
    have hk76 : s70 (184) = σ (184) := (hf71 (184) (by omega)).trans hk6
    have hk77 : s70 (187) = σ (187) := (hf71 (187) (by omega)).trans hk7
    have hg78 : ∀ a, a ≠ 5 → a ≠ 7 → a ≠ 10 → ra_g s70 179 a = ra_g σ 179 a := fun a h5 h7 h10 => ((fun a h7 h10 => he72 a h7) a h7 h10).trans (hg8 a h5 h7 h10)
    have ho79 : ∀ a, a ≠ 7 → a ≠ 10 → ra_g s70 179 a = ra_g σ 179 a := fun a h7 h10 => ((fun a h7 h10 => he72 a h7) a h7 h10).trans (ho9 a h7 h10)
    refine ra_ifne rfl rfl (by first | omega | (unfold ra_in at *; omega)) (fun h80 => ?_) (fun h80 => ?_)
    · refine ra_iconst rfl ?_
      exact ra_ireturn rfl rfl ⟨⟨_, (by first | omega | (unfold ra_in at *; omega)), rfl⟩, ⟨hF73, hk75, hk77, hg78, (WF_k hk74 hw), (PW_k hpw (ho79 5 (by decide) (by decide)) hk76)⟩⟩
    · exact absurd h80 (by decide)
theorem lp_326_20 {n : Nat} {f : Nat → Int32} {d : Nat} {x0 : Int} {σ : ra_V} (hx0 : ra_in x0) (hw : WF σ) : ∀ (nn : Nat) (v2 : Int) (v3 : Int) (s : ra_V) (hv2_0 : ra_in v2) (hv3_0 : 0 ≤ v3) (hv3_1 : v3 ≤ 600) (hF : Fr (179) (187) σ s) (hk0 : s (180) = σ (180)) (hk1 : s (181) = σ (181)) (hk2 : s (182) = σ (182)) (hk3 : s (183) = σ (183)) (hk4 : s (184) = σ (184)) (hoo : ∀ a, a ≠ 7 → a ≠ 10 → ra_g s 179 a = ra_g σ 179 a) (hp : 0 ≤ x0 ∧ x0 < 8 ∧ wq σ x0 0 = 1) (hm : ((ra_g σ 180 0 - v3 : Int)).toNat < nn), ra_P (g_Gs n f) g_sh 0 (d + 5) g_m_X8_copies_ 20 [some (.index (179)), some (ra_I x0), some (ra_I v2), some (ra_I v3), none] [] s (fun r s => rI r ∧ Fr (179) (187) σ s ∧ s (180) = σ (180) ∧ s (181) = σ (181) ∧ s (182) = σ (182) ∧ s (183) = σ (183) ∧ s (184) = σ (184) ∧ (∀ a, a ≠ 7 → a ≠ 10 → ra_g s 179 a = ra_g σ 179 a)) := by
  intro nn
  induction nn with
  | zero => intro v2 v3 s hv2_0 hv3_0 hv3_1 hF hk0 hk1 hk2 hk3 hk4 hoo hp hm; exact absurd hm (Nat.not_lt_zero _)
  | succ nn ih =>
    intro v2 v3 s hv2_0 hv3_0 hv3_1 hF hk0 hk1 hk2 hk3 hk4 hoo hp hm
    have hw0 := WF_a hw
    unfold WFa at hw0
    have hq := WF_p hw hp.1 hp.2.1 hp.2.2
    refine ra_load rfl rfl rfl rfl ?_
    refine ra_load rfl rfl rfl rfl ?_
    refine ra_getR rfl lk_8_7 (Nat.zero_le _) sh_179 rfl ?_
    refine ra_iconst rfl ?_
    refine ra_ialoadJ (j := 0) rfl sh_180 rfl (by decide) rfl (by decide) ?_
    rw [ra_gk hk0]
    have hr22 : ra_in (ra_g σ (180) 0) := (ra_in_g _ _ _)
    refine ra_icge rfl rfl (by first | omega | (unfold ra_in at *; omega)) hr22 (fun h23 => ?_) (fun h23 => ?_)
    · refine ra_load rfl rfl rfl rfl ?_
      exact ra_ireturn rfl rfl ⟨⟨_, (by first | omega | (unfold ra_in at *; omega)), rfl⟩, ⟨hF, hk0, hk1, hk2, hk3, hk4, hoo⟩⟩
    · refine ra_load rfl rfl rfl rfl ?_
      refine ra_getR rfl lk_8_7 (Nat.zero_le _) sh_179 rfl ?_
      refine ra_bipush rfl (by decide) ?_
      refine ra_load rfl rfl rfl rfl ?_
      refine ra_iadd rfl ?_
      refine ra_iaload rfl sh_180 rfl (by decide) (by first | omega | (unfold ra_in at *; omega)) (by first | omega | (unfold ra_in at *; omega)) ?_
      rw [ra_gk hk0]
      have hr24 : ra_in (ra_g σ (180) ((88) + v3).toNat) := (ra_in_g _ _ _)
      refine ra_load rfl rfl rfl rfl ?_
      refine ra_load rfl rfl rfl rfl ?_
      refine ra_iconst rfl ?_
      refine ra_cIp (sp_208 hx0 (by first | omega | (unfold ra_in at *; omega)) (by first | assumption | rfl | omega)) rfl (ct_208 rfl lk_8_75 (Or.inl rfl) sh_179 (Nat.le_of_ble_eq_true rfl)) (fun z26 hz26 => ?_)
      refine ra_isub rfl ?_
      refine ra_gen (fun z27 hz27 => ?_)
      refine ra_store (L' := [_, _, _, _, _]) rfl rfl rfl (Nat.le_of_ble_eq_true rfl) rfl ?_
      refine ra_load rfl rfl rfl rfl ?_
      refine ra_load rfl rfl rfl rfl ?_
      refine ra_i2l rfl hz27 ?_
      refine ra_lconst0 rfl ?_
      refine ra_load rfl rfl rfl rfl ?_
      refine ra_load rfl rfl rfl rfl ?_
      refine ra_iconst rfl ?_
      refine ra_cTp (sp_200 hx0 (by first | omega | (unfold ra_in at *; omega)) (by first | assumption | rfl | omega)) rfl (ct_200 rfl lk_8_67 (Or.inl rfl) sh_179 (Nat.le_of_ble_eq_true rfl)) ?_
      rw [wq_k hk0]
      have hr29 : ra_in (wq σ x0 (2)) := (ra_in_wq _ _ _)
      refine ra_iconst rfl ?_
      refine ra_isub rfl ?_
      refine ra_i2l rfl (by first | omega | (unfold ra_in at *; omega)) ?_
      refine ra_cTp (sp_193 hz27 (by first | omega | (unfold ra_in at *; omega)) (by first | omega | (unfold ra_in at *; omega))) rfl (ct_193 rfl lk_8_63 (Or.inl rfl) (Nat.le_of_ble_eq_true rfl)) ?_
      refine ra_ifeqB rfl rfl (fun h31 => ?_) (fun h31 => ?_)
      · refine ra_iconst rfl ?_
        refine ra_iadd rfl ?_
        refine ra_gen (fun z32 hz32 => ?_)
        refine ra_store (L' := [_, _, _, _, _]) rfl rfl rfl (Nat.le_of_ble_eq_true rfl) rfl ?_
        refine ra_iinc (L' := [_, _, _, _, _]) rfl rfl (Nat.le_of_ble_eq_true rfl) rfl ?_
        refine ra_goto rfl rfl ?_
        exact ra_weak (by repeat' constructor) (ih z32 (v3 + 1) s hz32 (by first | omega | (unfold ra_in at *; omega)) (by first | omega | (unfold ra_in at *; omega)) hF hk0 hk1 hk2 hk3 hk4 hoo hp (by first | omega | (unfold ra_in at *; omega)))
      · refine ra_load rfl rfl rfl rfl ?_
        refine ra_load rfl rfl rfl rfl ?_
        refine ra_load rfl rfl rfl rfl ?_
        refine ra_cIPp (sp_243 hx0 hz27 (WF_k hk0 hw) (by first | assumption | (rw [wq_k hk0]; omega)) (by rw [wq_k hk0]; omega)) rfl (ct_243 rfl lk_8_324 (Or.inl rfl) sh_179 (Nat.le_of_ble_eq_true rfl)) (fun z34 hz34 hz34p => ?_)
        refine ra_load rfl rfl rfl rfl ?_
        refine ra_iceq rfl rfl hz34 (by first | omega | (unfold ra_in at *; omega)) (fun h35 => ?_) (fun h35 => ?_)
        · refine ra_iconst rfl ?_
          refine ra_iadd rfl ?_
          refine ra_gen (fun z36 hz36 => ?_)
          refine ra_store (L' := [_, _, _, _, _]) rfl rfl rfl (Nat.le_of_ble_eq_true rfl) rfl ?_
          refine ra_iinc (L' := [_, _, _, _, _]) rfl rfl (Nat.le_of_ble_eq_true rfl) rfl ?_
          refine ra_goto rfl rfl ?_
          exact ra_weak (by repeat' constructor) (ih z36 (v3 + 1) s hz36 (by first | omega | (unfold ra_in at *; omega)) (by first | omega | (unfold ra_in at *; omega)) hF hk0 hk1 hk2 hk3 hk4 hoo hp (by first | omega | (unfold ra_in at *; omega)))
        · refine ra_iconst rfl ?_
          refine ra_goto rfl rfl ?_
          refine ra_iadd rfl ?_
          refine ra_gen (fun z37 hz37 => ?_)
          refine ra_store (L' := [_, _, _, _, _]) rfl rfl rfl (Nat.le_of_ble_eq_true rfl) rfl ?_
          refine ra_iinc (L' := [_, _, _, _, _]) rfl rfl (Nat.le_of_ble_eq_true rfl) rfl ?_
          refine ra_goto rfl rfl ?_
          exact ra_weak (by repeat' constructor) (ih z37 (v3 + 1) s hz37 (by first | omega | (unfold ra_in at *; omega)) (by first | omega | (unfold ra_in at *; omega)) hF hk0 hk1 hk2 hk3 hk4 hoo hp (by first | omega | (unfold ra_in at *; omega)))
theorem sp_326 {n : Nat} {f : Nat → Int32} {d : Nat} {x0 : Int} {σ : ra_V} (hx0 : ra_in x0) (hw : WF σ) : ra_C (g_Gs n f) g_sh 0 (d + 6) 326 [.index (179), ra_I x0] σ (fun r s => rI r ∧ Fr (179) (187) σ s ∧ s (180) = σ (180) ∧ s (181) = σ (181) ∧ s (182) = σ (182) ∧ s (183) = σ (183) ∧ s (184) = σ (184) ∧ (∀ a, a ≠ 7 → a ≠ 10 → ra_g s 179 a = ra_g σ 179 a)) := by
  refine ra_enter (nn := 3) mt_326 rfl (Nat.le_of_ble_eq_true rfl) rfl (fun h => absurd h (by decide +kernel)) ?_
  have hw0 := WF_a hw
  unfold WFa at hw0
  refine ra_load rfl rfl rfl rfl ?_
  refine ra_iconst rfl ?_
  refine ra_putI rfl lk_8_51 (Nat.zero_le _) sh_179 rfl rfl ?_
  refine ra_newU (by first | omega | (unfold ra_in at *; omega)) (fun s1 hs1 hp2 hp2o => ?_)
  have hp2_99 := hp2o 99 (by decide)
  have hF3 := Fr_tr (lo := 179) (hi := 187) Fr_rf hs1 (by omega)
  have hk4 : s1 (180) = σ (180) := (hs1 (180) (by omega))
  have hk5 : s1 (181) = σ (181) := (hs1 (181) (by omega))
  have hk6 : s1 (182) = σ (182) := (hs1 (182) (by omega))
  have hk7 : s1 (183) = σ (183) := (hs1 (183) (by omega))
  have hk8 : s1 (184) = σ (184) := (hs1 (184) (by omega))
  have ho9 : ∀ a, a ≠ 7 → a ≠ 10 → ra_g s1 179 a = ra_g σ 179 a := fun a h7 h10 => ((fun a h7 h10 => hp2o a h7) a h7 h10).trans ((fun _ _ _ => rfl) a h7 h10)
  refine ra_load rfl rfl rfl rfl ?_
  refine ra_load rfl rfl rfl rfl ?_
  refine ra_iconst rfl ?_
  refine ra_cQP (sp_268 hx0 (by first | omega | (unfold ra_in at *; omega))) rfl (ct_268 rfl lk_8_318 (Or.inl rfl) sh_179 (Nat.le_of_ble_eq_true rfl)) (fun z11 s10 hz11 hz11p hs10 => ?_)
  rw [wq_k hk4] at hz11p
  obtain ⟨hf12, he13⟩ := hs10
  have hF14 := Fr_tr (lo := 179) (hi := 187) hF3 hf12 (by omega)
  have hk15 : s10 (180) = σ (180) := (hf12 (180) (by omega)).trans hk4
  have hk16 : s10 (181) = σ (181) := (hf12 (181) (by omega)).trans hk5
  have hk17 : s10 (182) = σ (182) := (hf12 (182) (by omega)).trans hk6
  have hk18 : s10 (183) = σ (183) := (hf12 (183) (by omega)).trans hk7
  have hk19 : s10 (184) = σ (184) := (hf12 (184) (by omega)).trans hk8
  have ho20 : ∀ a, a ≠ 7 → a ≠ 10 → ra_g s10 179 a = ra_g σ 179 a := fun a h7 h10 => ((fun a h7 h10 => he13 a h7) a h7 h10).trans (ho9 a h7 h10)
  refine ra_ifeq rfl rfl (ra_in01 hz11) (fun h21 => ?_) (fun h21 => ?_)
  · have hp := hz11p (by omega)
    have hq := WF_p hw hp.1 hp.2.1 hp.2.2
    refine ra_iconst rfl ?_
    refine ra_store (L' := [_, _, _, _, _]) rfl rfl rfl (Nat.le_of_ble_eq_true rfl) rfl ?_
    refine ra_iconst rfl ?_
    refine ra_store (L' := [_, _, _, _, _]) rfl rfl rfl (Nat.le_of_ble_eq_true rfl) rfl ?_
    exact ra_weak (by repeat' constructor) (lp_326_20 hx0 hw _ (0) (0) s10 (by first | omega | (unfold ra_in at *; omega)) (by first | omega | (unfold ra_in at *; omega)) (by first | omega | (unfold ra_in at *; omega)) hF14 hk15 hk16 hk17 hk18 hk19 ho20 hp (Nat.lt_succ_self _))
  · refine ra_iconst rfl ?_
    exact ra_ireturn rfl rfl ⟨⟨_, (by first | omega | (unfold ra_in at *; omega)), rfl⟩, ⟨hF14, hk15, hk16, hk17, hk18, hk19, ho20⟩⟩
end RB
end
section
/-! a move turned back -/
section RB
section
variable {σ s : ra_V}
theorem mv_off (hw : WF σ) (h : ∀ a, REL a → a ≠ 16 → ra_g s 180 a = ra_g σ 180 a) (v16 : ra_g s 180 16 = -1) : WF s := by
  have e : ∀ q w, 0 ≤ q → q < 8 → 0 ≤ w → w < 4 → wf (rw_ s) q w = wf (rw_ σ) q w := fun q w p0 p1 w0 w1 => h _ (Or.inr (Or.inr (by omega))) (by omega)
  have e0 : ∀ j, j < 5 → rw_ s j = rw_ σ j := fun j hj => h j (by unfold REL; omega) (by omega)
  obtain ⟨h1, h2, h3, h4, h5⟩ := hw
  refine ⟨?_, fun q p0 p1 => ?_, fun q p0 p1 pe => ?_, fun q r p0 p1 q0 q1 hn pe qe => ?_, Or.inl v16⟩
  · unfold WFs
    rw [e0 0 (by omega), e0 1 (by omega), e0 2 (by omega), e0 3 (by omega), e0 4 (by omega)]
    exact h1
  · rw [e q 0 p0 p1 (by omega) (by omega)]
    exact h2 q p0 p1
  · rw [e q 0 p0 p1 (by omega) (by omega)] at pe
    have h6 := h3 q p0 p1 pe
    unfold WFp at *
    rw [e q 3 p0 p1 (by omega) (by omega), e q 2 p0 p1 (by omega) (by omega), e q 1 p0 p1 (by omega) (by omega), e0 0 (by omega), e0 1 (by omega), e0 2 (by omega)]
    exact h6
  · rw [e q 0 p0 p1 (by omega) (by omega)] at pe
    rw [e r 0 q0 q1 (by omega) (by omega)] at qe
    rw [e q 1 p0 p1 (by omega) (by omega), e q 2 p0 p1 (by omega) (by omega), e r 1 q0 q1 (by omega) (by omega), e r 2 q0 q1 (by omega) (by omega)]
    exact h4 q r p0 p1 q0 q1 hn pe qe
theorem tb_w {p : Int} (hw : WF σ) (hm1 : ra_g σ 180 16 ≠ -1) (ep : p = ra_g σ 180 16) (h : ∀ a, REL a → a ≠ 17 → a ≠ 18 → a ≠ 21 → a ≠ (24 + 8 * p + 1).toNat → ra_g s 180 a = ra_g σ 180 a) (v : wq s p 1 = ra_g σ 180 18) (v17 : ra_g s 180 17 = ra_g σ 180 18) (v18 : ra_g s 180 18 = ra_g σ 180 17)
    (v21 : 0 ≤ ra_g s 180 21 ∧ ra_g s 180 21 < rch σ) : WF s := by
  have hm := MV_f hw hm1
  have hp := hm.1
  have e : ∀ q w, 0 ≤ q → q < 8 → 0 ≤ w → w < 4 → (q ≠ p ∨ w ≠ 1) → wf (rw_ s) q w = wf (rw_ σ) q w := fun q w p0 p1 w0 w1 hn => h _ (Or.inr (Or.inr (by omega))) (by omega) (by omega) (by omega) (by omega)
  have e0 : ∀ j, (j < 5 ∨ j = 16 ∨ j = 19 ∨ j = 20 ∨ j = 22) → rw_ s j = rw_ σ j := fun j hj => h j (by unfold REL; omega) (by omega) (by omega) (by omega) (by omega)
  have hv := WF_m hw hm1
  subst ep
  have hp2 : wq σ (ra_g σ 180 16) 0 = 1 := hm.2.1
  have hpp := WF_p hw hp.1 hp.2 hp2
  have hap := fun q q0 q1 hn qe => WF_ap hw (p := ra_g σ 180 16) (q := q) hp.1 hp.2 q0 q1 hn hp2 qe
  obtain ⟨h1, h2, h3, h4, h5⟩ := hw
  obtain ⟨c1, c2, c3, c4, c5, c6, c7, c8, c9, c10, c11⟩ := hv
  have c3 : wq σ (ra_g σ 180 16) 1 = ra_g σ 180 17 := c3
  have d4 : ra_g σ 180 1 ≤ ra_g σ 180 18 ∧ ra_g σ 180 18 + wq σ (ra_g σ 180 16) 2 ≤ ra_g σ 180 0 - ra_g σ 180 2 := c4
  have d11 : ∀ q, 0 ≤ q → q < 8 → q ≠ ra_g σ 180 16 → wq σ q 0 = 1 → ra_g σ 180 18 + wq σ (ra_g σ 180 16) 2 ≤ wq σ q 1 ∨ wq σ q 1 + wq σ q 2 ≤ ra_g σ 180 18 := c11
  have v : wf (rw_ s) (ra_g σ 180 16) 1 = ra_g σ 180 18 := v
  refine ⟨?_, fun q p0 p1 => ?_, fun q p0 p1 pe => ?_, fun q r p0 p1 q0 q1 hn pe qe => ?_, Or.inr ?_⟩
  · unfold WFs
    rw [e0 0 (by omega), e0 1 (by omega), e0 2 (by omega), e0 3 (by omega), e0 4 (by omega)]
    exact h1
  · rw [e q 0 p0 p1 (by omega) (by omega) (by omega)]
    exact h2 q p0 p1
  · rw [e q 0 p0 p1 (by omega) (by omega) (by omega)] at pe
    have h6 := h3 q p0 p1 pe
    unfold WFp at *
    rw [e q 3 p0 p1 (by omega) (by omega) (by omega), e q 2 p0 p1 (by omega) (by omega) (by omega), e0 0 (by omega), e0 1 (by omega), e0 2 (by omega)]
    by_cases eq : q = ra_g σ 180 16
    · subst eq
      rw [v]
      exact ⟨h6.1, h6.2.1, d4.1, d4.2⟩
    · rw [e q 1 p0 p1 (by omega) (by omega) (by omega)]
      exact h6
  · rw [e q 0 p0 p1 (by omega) (by omega) (by omega)] at pe
    rw [e r 0 q0 q1 (by omega) (by omega) (by omega)] at qe
    rw [e q 2 p0 p1 (by omega) (by omega) (by omega), e r 2 q0 q1 (by omega) (by omega) (by omega)]
    by_cases eq : q = ra_g σ 180 16
    · subst eq
      rw [v, e r 1 q0 q1 (by omega) (by omega) (by omega)]
      exact d11 r q0 q1 (Ne.symm hn) qe
    · by_cases er : r = ra_g σ 180 16
      · subst er
        rw [v, e q 1 p0 p1 (by omega) (by omega) (by omega)]
        have t : ra_g σ 180 18 + wf (rw_ σ) (ra_g σ 180 16) 2 ≤ wf (rw_ σ) q 1 ∨ wf (rw_ σ) q 1 + wf (rw_ σ) q 2 ≤ ra_g σ 180 18 := d11 q p0 p1 eq pe
        unfold ref_apart
        omega
      · rw [e q 1 p0 p1 (by omega) (by omega) (by omega), e r 1 q0 q1 (by omega) (by omega) (by omega)]
        exact h4 q r p0 p1 q0 q1 hn pe qe
  · have r17 : rw_ s 17 = ra_g σ 180 18 := v17
    have r18 : rw_ s 18 = ra_g σ 180 17 := v18
    have r16 : rw_ s 16 = ra_g σ 180 16 := e0 16 (by omega)
    unfold WFm
    rw [r17, r18, r16, e0 19 (by omega), e0 20 (by omega), e0 22 (by omega), e0 0 (by omega), e0 1 (by omega), e0 2 (by omega), v, e _ 0 hp.1 hp.2 (by omega) (by omega) (by omega), e _ 2 hp.1 hp.2 (by omega) (by omega) (by omega)]
    refine ⟨hp, hp2, rfl, ⟨by rw [← c3]; exact hpp.2.2.1, by rw [← c3]; exact hpp.2.2.2⟩, Ne.symm c5, c6, v21, c8, c9, fun q => ?_, fun q q0 q1 hn qe => ?_⟩
    · exact (c10 q).symm
    · rw [e q 0 q0 q1 (by omega) (by omega) (by omega)] at qe
      rw [e q 1 q0 q1 (by omega) (by omega) (by omega), e q 2 q0 q1 (by omega) (by omega) (by omega)]
      rw [← c3]
      exact hap q q0 q1 (Ne.symm hn) qe
theorem tb_c {s1 s2 s3 s4 : ra_V} {p : Int} (hw : WF σ) (hm1 : ra_g σ 180 16 ≠ -1) (h0 : ra_g σ 180 21 ≠ 0) (v1 : ra_g s1 180 21 = rch σ - ra_g σ 180 21) (o1 : ∀ a, a ≠ 21 → ra_g s1 180 a = ra_g σ 180 a) (v2 : ra_g s2 180 17 = ra_g s1 180 18) (o2 : ∀ a, a ≠ 17 → ra_g s2 180 a = ra_g s1 180 a)
    (v3 : ra_g s3 180 18 = ra_g σ 180 17) (o3 : ∀ a, a ≠ 18 → ra_g s3 180 a = ra_g s2 180 a) (ep : p = ra_g s3 180 16) (v4 : wq s4 p 1 = ra_g s3 180 17) (o4 : ∀ a, a ≠ (24 + 8 * p + 1).toNat → ra_g s4 180 a = ra_g s3 180 a) : WF s4 ∧ ra_g s4 180 16 = ra_g σ 180 16 := by
  have hm := MV_f hw hm1
  have e16 : ra_g s3 180 16 = ra_g σ 180 16 := by rw [o3 16 (by omega), o2 16 (by omega), o1 16 (by omega)]
  have hp := hm.1
  have w17 : ra_g s3 180 17 = ra_g σ 180 18 := by rw [o3 17 (by omega), v2, o1 18 (by omega)]
  have w21 : ra_g s4 180 21 = rch σ - ra_g σ 180 21 := by rw [o4 21 (by omega), o3 21 (by omega), o2 21 (by omega), v1]
  obtain ⟨-, -, -, -, -, -, -, -, m9, -⟩ := hm
  refine ⟨tb_w (p := p) hw hm1 (by omega) (fun a ha h1 h2 h3 h4 => ?_) (v4.trans w17) ?_ ?_ ⟨by omega, by omega⟩, ?_⟩
  · rw [o4 a h4, o3 a h2, o2 a h1, o1 a h3]
  · rw [o4 17 (by omega), w17]
  · rw [o4 18 (by omega), v3]
  · rw [o4 16 (by omega), e16]
end
end RB
end
section
/-! the reference: what its methods do (printed by wip/gen/ref.py) -/
section RB
theorem sp_321 {n : Nat} {f : Nat → Int32} {d : Nat}  {σ : ra_V} (hw : WF σ) (hpw : PW σ) : ra_C (g_Gs n f) g_sh 0 (d + 4) 321 [.index (179)] σ (fun r s => rI r ∧ Fr (179) (191) σ s ∧ s (183) = σ (183) ∧ s (187) = σ (187) ∧ (∀ a, a ≠ 5 → a ≠ 7 → a ≠ 10 → ra_g s 179 a = ra_g σ 179 a) ∧ WF s ∧ PW s) := by
  refine ra_enter (nn := 1) mt_321 rfl (Nat.le_of_ble_eq_true rfl) rfl (fun h => absurd h (by decide +kernel)) ?_
  have hw0 := WF_a hw
  unfold WFa at hw0
  refine ra_load rfl rfl rfl rfl ?_
  refine ra_iconst rfl ?_
  refine ra_putI rfl lk_8_51 (Nat.zero_le _) sh_179 rfl rfl ?_
  refine ra_newU (by first | omega | (unfold ra_in at *; omega)) (fun s1 hs1 hp2 hp2o => ?_)
  have hp2_99 := hp2o 99 (by decide)
  have hF3 := Fr_tr (lo := 179) (hi := 191) Fr_rf hs1 (by omega)
  have hk4 : s1 (180) = σ (180) := (hs1 (180) (by omega))
  have hk5 : s1 (183) = σ (183) := (hs1 (183) (by omega))
  have hk6 : s1 (184) = σ (184) := (hs1 (184) (by omega))
  have hk7 : s1 (187) = σ (187) := (hs1 (187) (by omega))
  have hg8 : ∀ a, a ≠ 5 → a ≠ 7 → a ≠ 10 → ra_g s1 179 a = ra_g σ 179 a := fun a h5 h7 h10 => ((fun a h7 h10 => hp2o a h7) a h7 h10).trans ((fun _ _ _ _ => rfl) a h5 h7 h10)
  have ho9 : ∀ a, a ≠ 7 → a ≠ 10 → ra_g s1 179 a = ra_g σ 179 a := fun a h7 h10 => ((fun a h7 h10 => hp2o a h7) a h7 h10).trans ((fun _ _ _ => rfl) a h7 h10)
  refine ra_load rfl rfl rfl rfl ?_
  refine ra_load rfl rfl rfl rfl ?_
  refine ra_cQPp (sp_204 ) rfl (ct_204 rfl lk_8_95 (Or.inl rfl) sh_179 (Nat.le_of_ble_eq_true rfl)) (fun z11 hz11 hz11p => ?_)
  refine ra_ifeq rfl rfl (ra_in01 hz11) (fun h12 => ?_) (fun h12 => ?_)
  · refine ra_iconst rfl ?_
    refine ra_goto rfl rfl ?_
    refine ra_iconst rfl ?_
    refine ra_cT (sp_194 (Or.inr rfl) (by first | omega | (unfold ra_in at *; omega))) rfl (ct_194 rfl lk_8_303 (Or.inl rfl) sh_179 (Nat.le_of_ble_eq_true rfl)) (fun s13 hs13 => ?_)
    obtain ⟨hf14, he15⟩ := hs13
    have hF16 := Fr_tr (lo := 179) (hi := 191) hF3 hf14 (by omega)
    have hk17 : s13 (180) = σ (180) := (hf14 (180) (by omega)).trans hk4
    have hk18 : s13 (183) = σ (183) := (hf14 (183) (by omega)).trans hk5
    have hk19 : s13 (184) = σ (184) := (hf14 (184) (by omega)).trans hk6
    have hk20 : s13 (187) = σ (187) := (hf14 (187) (by omega)).trans hk7
    have hg21 : ∀ a, a ≠ 5 → a ≠ 7 → a ≠ 10 → ra_g s13 179 a = ra_g σ 179 a := fun a h5 h7 h10 => ((fun a h7 h10 => he15 a h7) a h7 h10).trans (hg8 a h5 h7 h10)
    have ho22 : ∀ a, a ≠ 7 → a ≠ 10 → ra_g s13 179 a = ra_g σ 179 a := fun a h7 h10 => ((fun a h7 h10 => he15 a h7) a h7 h10).trans (ho9 a h7 h10)
    refine ra_ifeq rfl rfl (by first | omega | (unfold ra_in at *; omega)) (fun h23 => ?_) (fun h23 => ?_)
    · exact absurd h23 (by decide)
    · refine ra_iconst rfl ?_
      exact ra_ireturn rfl rfl ⟨⟨_, (by first | omega | (unfold ra_in at *; omega)), rfl⟩, ⟨hF16, hk18, hk20, hg21, (WF_k hk17 hw), (PW_k hpw (ho22 5 (by decide) (by decide)) hk19)⟩⟩
  · refine ra_load rfl rfl rfl rfl ?_
    refine ra_getR rfl lk_8_7 (Nat.zero_le _) sh_179 rfl ?_
    refine ra_bipush rfl (by decide) ?_
    refine ra_ialoadJ (j := 22) rfl sh_180 rfl (by decide) rfl (by decide) ?_
    rw [ra_gk hk4]
    have hr24 : ra_in (ra_g σ (180) 22) := (ra_in_g _ _ _)
    refine ra_iconst rfl ?_
    refine ra_icne rfl rfl hr24 (by first | omega | (unfold ra_in at *; omega)) (fun h25 => ?_) (fun h25 => ?_)
    · refine ra_iconst rfl ?_
      refine ra_iconst rfl ?_
      refine ra_cT (sp_194 (Or.inl rfl) (by first | omega | (unfold ra_in at *; omega))) rfl (ct_194 rfl lk_8_303 (Or.inl rfl) sh_179 (Nat.le_of_ble_eq_true rfl)) (fun s26 hs26 => ?_)
      obtain ⟨hf27, he28⟩ := hs26
      have hF29 := Fr_tr (lo := 179) (hi := 191) hF3 hf27 (by omega)
      have hk30 : s26 (180) = σ (180) := (hf27 (180) (by omega)).trans hk4
      have hk31 : s26 (183) = σ (183) := (hf27 (183) (by omega)).trans hk5
      have hk32 : s26 (184) = σ (184) := (hf27 (184) (by omega)).trans hk6
      have hk33 : s26 (187) = σ (187) := (hf27 (187) (by omega)).trans hk7
      have hg34 : ∀ a, a ≠ 5 → a ≠ 7 → a ≠ 10 → ra_g s26 179 a = ra_g σ 179 a := fun a h5 h7 h10 => ((fun a h7 h10 => he28 a h7) a h7 h10).trans (hg8 a h5 h7 h10)
      have ho35 : ∀ a, a ≠ 7 → a ≠ 10 → ra_g s26 179 a = ra_g σ 179 a := fun a h7 h10 => ((fun a h7 h10 => he28 a h7) a h7 h10).trans (ho9 a h7 h10)
      refine ra_ifeq rfl rfl (by first | omega | (unfold ra_in at *; omega)) (fun h36 => ?_) (fun h36 => ?_)
      · refine ra_load rfl rfl rfl rfl ?_
        refine ra_cV (sp_197 (WF_k hk30 hw) (PW_k hpw (ho35 5 (by decide) (by decide)) hk32)) rfl (ct_197 rfl lk_8_366 (Or.inl rfl) sh_179 (Nat.le_of_ble_eq_true rfl)) (fun s37 hs37 => ?_)
        obtain ⟨hf38, hc39, hc40, hc41, hc42, he43, he44⟩ := hs37
        have hF45 := Fr_tr (lo := 179) (hi := 191) hF29 hf38 (by omega)
        have hk46 : s37 (180) = σ (180) := hc39.trans hk30
        have hk47 : s37 (183) = σ (183) := hc42.trans hk31
        have hk48 : s37 (187) = σ (187) := (hf38 (187) (by omega)).trans hk33
        have hg49 : ∀ a, a ≠ 5 → a ≠ 7 → a ≠ 10 → ra_g s37 179 a = ra_g σ 179 a := fun a h5 h7 h10 => ((fun a h5 h7 h10 => he43 a h5) a h5 h7 h10).trans (hg34 a h5 h7 h10)
        have hmv0 := hz11p.mp (by omega)
        rw [ra_gk hk4] at hmv0
        have hmv : ra_g s37 180 16 ≠ -1 := by rw [ra_gk hk46]; exact hmv0
        refine ra_load rfl rfl rfl rfl ?_
        refine ra_getR rfl lk_8_7 (Nat.zero_le _) sh_179 rfl ?_
        refine ra_bipush rfl (by decide) ?_
        refine ra_ialoadJ (j := 21) rfl sh_180 rfl (by decide) rfl (by decide) ?_
        rw [ra_gk hk46]
        have hr50 : ra_in (ra_g σ (180) 21) := (ra_in_g _ _ _)
        refine ra_ifne rfl rfl hr50 (fun h51 => ?_) (fun h51 => ?_)
        · refine ra_load rfl rfl rfl rfl ?_
          refine ra_getR rfl lk_8_7 (Nat.zero_le _) sh_179 rfl ?_
          refine ra_bipush rfl (by decide) ?_
          refine ra_ialoadJ (j := 17) rfl sh_180 rfl (by decide) rfl (by decide) ?_
          rw [ra_gk hk46]
          have hr52 : ra_in (ra_g σ (180) 17) := (ra_in_g _ _ _)
          refine ra_store (L' := [_, _]) rfl rfl rfl (Nat.le_of_ble_eq_true rfl) rfl ?_
          refine ra_load rfl rfl rfl rfl ?_
          refine ra_getR rfl lk_8_7 (Nat.zero_le _) sh_179 rfl ?_
          refine ra_bipush rfl (by decide) ?_
          refine ra_load rfl rfl rfl rfl ?_
          refine ra_cTp (sp_228 (MV_f (WF_k hk46 hw) hmv)) rfl (ct_228 rfl lk_8_150 (Or.inl rfl) sh_179 (Nat.le_of_ble_eq_true rfl)) ?_
          have hm54 := (MV_f (WF_k hk46 hw) hmv)
          unfold MF at hm54
          have hr55 : ra_in (rch s37) := (by first | omega | (unfold ra_in at *; omega))
          refine ra_load rfl rfl rfl rfl ?_
          refine ra_getR rfl lk_8_7 (Nat.zero_le _) sh_179 rfl ?_
          refine ra_bipush rfl (by decide) ?_
          have e21 : ra_g s37 180 21 = ra_g σ 180 21 := ra_gk hk46
          refine ra_ialoadJ (j := 21) rfl sh_180 rfl (by decide) rfl (by decide) ?_
          rw [ra_gk hk46]
          have hr56 : ra_in (ra_g σ (180) 21) := (ra_in_g _ _ _)
          refine ra_isub rfl ?_
          refine ra_iastoreJ (j := 21) rfl sh_180 rfl (by decide) rfl (by decide) ?_
          refine ra_newR (by first | omega | (unfold ra_in at *; omega)) (fun s57 hs57 hs57v hs57o => ?_)
          have hF58 := Fr_tr (lo := 179) (hi := 191) hF45 hs57 (by omega)
          have hk59 : s57 (183) = σ (183) := (hs57 (183) (by omega)).trans hk47
          have hk60 : s57 (187) = σ (187) := (hs57 (187) (by omega)).trans hk48
          have hg61 : ∀ a, a ≠ 5 → a ≠ 7 → a ≠ 10 → ra_g s57 179 a = ra_g σ 179 a := fun a h5 h7 h10 => (ra_gk (hs57 179 (by omega))).trans (hg49 a h5 h7 h10)
          refine ra_load rfl rfl rfl rfl ?_
          refine ra_getR rfl lk_8_7 (Nat.zero_le _) sh_179 rfl ?_
          refine ra_bipush rfl (by decide) ?_
          refine ra_load rfl rfl rfl rfl ?_
          refine ra_getR rfl lk_8_7 (Nat.zero_le _) sh_179 rfl ?_
          refine ra_bipush rfl (by decide) ?_
          refine ra_ialoadJ (j := 18) rfl sh_180 rfl (by decide) rfl (by decide) ?_
          have hr62 : ra_in (ra_g s57 (180) 18) := (ra_in_g _ _ _)
          refine ra_iastoreJ (j := 17) rfl sh_180 rfl (by decide) rfl (by decide) ?_
          refine ra_newR hr62 (fun s63 hs63 hs63v hs63o => ?_)
          have hF64 := Fr_tr (lo := 179) (hi := 191) hF58 hs63 (by omega)
          have hk65 : s63 (183) = σ (183) := (hs63 (183) (by omega)).trans hk59
          have hk66 : s63 (187) = σ (187) := (hs63 (187) (by omega)).trans hk60
          have hg67 : ∀ a, a ≠ 5 → a ≠ 7 → a ≠ 10 → ra_g s63 179 a = ra_g σ 179 a := fun a h5 h7 h10 => (ra_gk (hs63 179 (by omega))).trans (hg61 a h5 h7 h10)
          refine ra_load rfl rfl rfl rfl ?_
          refine ra_getR rfl lk_8_7 (Nat.zero_le _) sh_179 rfl ?_
          refine ra_bipush rfl (by decide) ?_
          refine ra_load rfl rfl rfl rfl ?_
          refine ra_iastoreJ (j := 18) rfl sh_180 rfl (by decide) rfl (by decide) ?_
          refine ra_newR hr52 (fun s68 hs68 hs68v hs68o => ?_)
          have hF69 := Fr_tr (lo := 179) (hi := 191) hF64 hs68 (by omega)
          have hk70 : s68 (183) = σ (183) := (hs68 (183) (by omega)).trans hk65
          have hk71 : s68 (187) = σ (187) := (hs68 (187) (by omega)).trans hk66
          have hg72 : ∀ a, a ≠ 5 → a ≠ 7 → a ≠ 10 → ra_g s68 179 a = ra_g σ 179 a := fun a h5 h7 h10 => (ra_gk (hs68 179 (by omega))).trans (hg67 a h5 h7 h10)
          have e16 : ra_g s68 180 16 = ra_g σ 180 16 := (hs68o 16 (by decide)).trans ((hs63o 16 (by decide)).trans ((hs57o 16 (by decide)).trans (ra_gk hk46)))
          refine ra_load rfl rfl rfl rfl ?_
          refine ra_load rfl rfl rfl rfl ?_
          refine ra_getR rfl lk_8_7 (Nat.zero_le _) sh_179 rfl ?_
          refine ra_bipush rfl (by decide) ?_
          refine ra_ialoadJ (j := 16) rfl sh_180 rfl (by decide) rfl (by decide) ?_
          have hr73 : ra_in (ra_g s68 (180) 16) := (ra_in_g _ _ _)
          refine ra_iconst rfl ?_
          refine ra_load rfl rfl rfl rfl ?_
          refine ra_getR rfl lk_8_7 (Nat.zero_le _) sh_179 rfl ?_
          refine ra_bipush rfl (by decide) ?_
          refine ra_ialoadJ (j := 17) rfl sh_180 rfl (by decide) rfl (by decide) ?_
          have hr74 : ra_in (ra_g s68 (180) 17) := (ra_in_g _ _ _)
          refine ra_cV (sp_201 hr73 (by first | omega | (unfold ra_in at *; omega)) hr74 (by first | assumption | rfl | omega)) rfl (ct_201 rfl lk_8_78 (Or.inl rfl) sh_179 (Nat.le_of_ble_eq_true rfl)) (fun s75 hs75 => ?_)
          obtain ⟨hf76, he77, he78⟩ := hs75
          have hF79 := Fr_tr (lo := 179) (hi := 191) hF69 hf76 (by omega)
          have hk80 : s75 (183) = σ (183) := (hf76 (183) (by omega)).trans hk70
          have hk81 : s75 (187) = σ (187) := (hf76 (187) (by omega)).trans hk71
          have hg82 : ∀ a, a ≠ 5 → a ≠ 7 → a ≠ 10 → ra_g s75 179 a = ra_g σ 179 a := fun a h5 h7 h10 => (ra_gk (hf76 179 (by omega))).trans (hg72 a h5 h7 h10)
          have tb := tb_c (WF_k hk46 hw) hmv (by rw [ra_gk hk46]; omega) (by have t := hs57v; have t2 : ra_g s37 180 21 = ra_g σ 180 21 := ra_gk hk46; omega) hs57o hs63v hs63o (hs68v.trans (ra_gk hk46).symm) hs68o rfl he77 he78
          refine ra_load rfl rfl rfl rfl ?_
          refine ra_cIp (sp_235 (MV_f tb.1 (by rw [tb.2]; exact hmv))) rfl (ct_235 rfl lk_8_394 (Or.inl rfl) sh_179 (Nat.le_of_ble_eq_true rfl)) (fun z84 hz84 => ?_)
          exact ra_ireturn rfl rfl ⟨⟨_, hz84, rfl⟩, ⟨hF79, hk80, hk81, hg82, tb.1, (PW_k (PW_k (PW_k (PW_k he44 (ra_gk (hs57 179 (by omega))) (hs57 184 (by omega))) (ra_gk (hs63 179 (by omega))) (hs63 184 (by omega))) (ra_gk (hs68 179 (by omega))) (hs68 184 (by omega))) (ra_gk (hf76 179 (by omega))) (hf76 184 (by omega)))⟩⟩
        · refine ra_load rfl rfl rfl rfl ?_
          refine ra_getR rfl lk_8_7 (Nat.zero_le _) sh_179 rfl ?_
          refine ra_bipush rfl (by decide) ?_
          refine ra_iconst rfl ?_
          refine ra_iastoreJ (j := 16) rfl sh_180 rfl (by decide) rfl (by decide) ?_
          refine ra_newR (by first | omega | (unfold ra_in at *; omega)) (fun s85 hs85 hs85v hs85o => ?_)
          have hF86 := Fr_tr (lo := 179) (hi := 191) hF45 hs85 (by omega)
          have hk87 : s85 (183) = σ (183) := (hs85 (183) (by omega)).trans hk47
          have hk88 : s85 (187) = σ (187) := (hs85 (187) (by omega)).trans hk48
          have hg89 : ∀ a, a ≠ 5 → a ≠ 7 → a ≠ 10 → ra_g s85 179 a = ra_g σ 179 a := fun a h5 h7 h10 => (ra_gk (hs85 179 (by omega))).trans (hg49 a h5 h7 h10)
          refine ra_iconst rfl ?_
          exact ra_ireturn rfl rfl ⟨⟨_, (by first | omega | (unfold ra_in at *; omega)), rfl⟩, ⟨hF86, hk87, hk88, hg89, (mv_off (WF_k hk46 hw) (fun a ha h => hs85o a h) hs85v), (PW_k he44 (ra_gk (hs85 179 (by omega))) (hs85 184 (by omega)))⟩⟩
      · exact absurd h36 (by decide)
    · refine ra_iconst rfl ?_
      refine ra_goto rfl rfl ?_
      refine ra_iconst rfl ?_
      refine ra_cT (sp_194 (Or.inr rfl) (by first | omega | (unfold ra_in at *; omega))) rfl (ct_194 rfl lk_8_303 (Or.inl rfl) sh_179 (Nat.le_of_ble_eq_true rfl)) (fun s90 hs90 => ?_)
      obtain ⟨hf91, he92⟩ := hs90
      have hF93 := Fr_tr (lo := 179) (hi := 191) hF3 hf91 (by omega)
      have hk94 : s90 (180) = σ (180) := (hf91 (180) (by omega)).trans hk4
      have hk95 : s90 (183) = σ (183) := (hf91 (183) (by omega)).trans hk5
      have hk96 : s90 (184) = σ (184) := (hf91 (184) (by omega)).trans hk6
      have hk97 : s90 (187) = σ (187) := (hf91 (187) (by omega)).trans hk7
      have hg98 : ∀ a, a ≠ 5 → a ≠ 7 → a ≠ 10 → ra_g s90 179 a = ra_g σ 179 a := fun a h5 h7 h10 => ((fun a h7 h10 => he92 a h7) a h7 h10).trans (hg8 a h5 h7 h10)
      have ho99 : ∀ a, a ≠ 7 → a ≠ 10 → ra_g s90 179 a = ra_g σ 179 a := fun a h7 h10 => ((fun a h7 h10 => he92 a h7) a h7 h10).trans (ho9 a h7 h10)
      refine ra_ifeq rfl rfl (by first | omega | (unfold ra_in at *; omega)) (fun h100 => ?_) (fun h100 => ?_)
      · exact absurd h100 (by decide)
      · refine ra_iconst rfl ?_
        exact ra_ireturn rfl rfl ⟨⟨_, (by first | omega | (unfold ra_in at *; omega)), rfl⟩, ⟨hF93, hk95, hk97, hg98, (WF_k hk94 hw), (PW_k hpw (ho99 5 (by decide) (by decide)) hk96)⟩⟩
end RB
end
section
/-! undone, saved, restored -/
section RB
theorem ud_w {σ s2 s3 : ra_V} (hpw : PW σ) (h0 : ra_g σ 179 5 ≠ 0) (v : ra_g s2 179 5 = ra_g σ 179 5 - 1) (k : s2 184 = σ 184) (c : CPO s2 s3 184 180 (688 * ra_g s2 179 5) 0 688) (f5 : ra_g s3 179 5 = ra_g s2 179 5) (k3 : s3 184 = s2 184) : WF s3 ∧ PW s3 := by
  obtain ⟨p1, p2⟩ := hpw
  refine ⟨?_, by omega, fun i hi => ?_⟩
  · refine WF_sc (σ := rowV σ 184 (688 * (ra_g σ 179 5 - 1).toNat)) (fun a ha => ?_) (p2 _ (by omega))
    rw [rowV_g, c, if_pos (by omega), ra_gk k]
    congr 1
    omega
  · refine WF_sc (σ := rowV σ 184 (688 * i)) (fun a ha => ?_) (p2 i (by omega))
    rw [rowV_g, rowV_g]
    exact ra_gk (k3.trans k)
theorem sv_w {σ s0 s1 s2 : ra_V} (hw : WF σ) (k0 : s0 180 = σ 180) (c : CPO s0 s1 180 183 0 0 688) (k : s2 183 = s1 183) : WF (rowV s2 183 0) := by
  refine WF_sc (σ := σ) (fun a ha => ?_) hw
  rw [rowV_g, ra_gk k, c, if_pos (by omega), ra_gk k0]
  congr 1
  omega
theorem rs_w {σ s0 s1 s2 : ra_V} (hs : WF (rowV σ 183 0)) (k0 : s0 183 = σ 183) (c : CPO s0 s1 183 180 0 0 688) (k : s2 180 = s1 180) (v : ra_g s2 179 5 = 0) : WF s2 ∧ PW s2 := by
  refine ⟨WF_sc (σ := rowV σ 183 0) (fun a ha => ?_) hs, by omega, fun i hi => by omega⟩
  rw [rowV_g, ra_gk k, c, if_pos (by omega), ra_gk k0]
  congr 1
  omega
end RB
end
section
/-! the reference: what its methods do (printed by wip/gen/ref.py) -/
section RB
theorem sp_340 {n : Nat} {f : Nat → Int32} {d : Nat}  {σ : ra_V} (hw : WF σ) (hpw : PW σ) : ra_C (g_Gs n f) g_sh 0 (d + 2) 340 [.index (179)] σ (fun r s => rI r ∧ Fr (179) (191) σ s ∧ s (183) = σ (183) ∧ s (187) = σ (187) ∧ (∀ a, a ≠ 5 → a ≠ 7 → a ≠ 10 → ra_g s 179 a = ra_g σ 179 a) ∧ WF s ∧ PW s) := by
  refine ra_enter (nn := 0) mt_340 rfl (Nat.le_of_ble_eq_true rfl) rfl (fun h => absurd h (by decide +kernel)) ?_
  have hpw0 := hpw.1
  refine ra_load rfl rfl rfl rfl ?_
  refine ra_iconst rfl ?_
  refine ra_putI rfl lk_8_51 (Nat.zero_le _) sh_179 rfl rfl ?_
  refine ra_newU (by first | omega | (unfold ra_in at *; omega)) (fun s1 hs1 hp2 hp2o => ?_)
  have hp2_5 := hp2o 5 (by decide)
  have hp2_99 := hp2o 99 (by decide)
  have hF3 := Fr_tr (lo := 179) (hi := 191) Fr_rf hs1 (by omega)
  have hk4 : s1 (180) = σ (180) := (hs1 (180) (by omega))
  have hk5 : s1 (183) = σ (183) := (hs1 (183) (by omega))
  have hk6 : s1 (184) = σ (184) := (hs1 (184) (by omega))
  have hk7 : s1 (187) = σ (187) := (hs1 (187) (by omega))
  have hg8 : ∀ a, a ≠ 5 → a ≠ 7 → a ≠ 10 → ra_g s1 179 a = ra_g σ 179 a := fun a h5 h7 h10 => ((fun a h7 h10 => hp2o a h7) a h7 h10).trans ((fun _ _ _ _ => rfl) a h5 h7 h10)
  have ho9 : ∀ a, a ≠ 7 → a ≠ 10 → ra_g s1 179 a = ra_g σ 179 a := fun a h7 h10 => ((fun a h7 h10 => hp2o a h7) a h7 h10).trans ((fun _ _ _ => rfl) a h7 h10)
  refine ra_load rfl rfl rfl rfl ?_
  refine ra_getI rfl lk_8_54 (Nat.zero_le _) sh_179 rfl ?_
  have hr10 : ra_in (ra_g s1 (179) 5) := (ra_in_g _ _ _)
  refine ra_ifne rfl rfl hr10 (fun h11 => ?_) (fun h11 => ?_)
  · refine ra_load rfl rfl rfl rfl ?_
    refine ra_dup rfl rfl ?_
    refine ra_getI rfl lk_8_54 (Nat.zero_le _) sh_179 rfl ?_
    have hr12 : ra_in (ra_g s1 (179) 5) := (ra_in_g _ _ _)
    refine ra_iconst rfl ?_
    refine ra_isub rfl ?_
    refine ra_putI rfl lk_8_54 (Nat.zero_le _) sh_179 rfl rfl ?_
    refine ra_newU (by first | omega | (unfold ra_in at *; omega)) (fun s13 hs13 hp14 hp14o => ?_)
    have hp14_99 := hp14o 99 (by decide)
    have hF15 := Fr_tr (lo := 179) (hi := 191) hF3 hs13 (by omega)
    have hk16 : s13 (180) = σ (180) := (hs13 (180) (by omega)).trans hk4
    have hk17 : s13 (183) = σ (183) := (hs13 (183) (by omega)).trans hk5
    have hk18 : s13 (184) = σ (184) := (hs13 (184) (by omega)).trans hk6
    have hk19 : s13 (187) = σ (187) := (hs13 (187) (by omega)).trans hk7
    have hg20 : ∀ a, a ≠ 5 → a ≠ 7 → a ≠ 10 → ra_g s13 179 a = ra_g σ 179 a := fun a h5 h7 h10 => ((fun a h5 h7 h10 => hp14o a h5) a h5 h7 h10).trans (hg8 a h5 h7 h10)
    refine ra_load rfl rfl rfl rfl ?_
    refine ra_getR rfl lk_8_22 (Nat.zero_le _) sh_179 rfl ?_
    refine ra_sipush rfl (by decide) ?_
    refine ra_load rfl rfl rfl rfl ?_
    refine ra_getI rfl lk_8_54 (Nat.zero_le _) sh_179 rfl ?_
    have hr21 : ra_in (ra_g s13 (179) 5) := (ra_in_g _ _ _)
    refine ra_imul rfl ?_
    refine ra_load rfl rfl rfl rfl ?_
    refine ra_getR rfl lk_8_7 (Nat.zero_le _) sh_179 rfl ?_
    refine ra_iconst rfl ?_
    refine ra_sipush rfl (by decide) ?_
    refine ra_cV (sp_195 sh_184 (by decide) (by first | omega | (unfold ra_in at *; omega)) sh_180 (by decide) (by first | omega | (unfold ra_in at *; omega)) (by first | omega | (unfold ra_in at *; omega)) (by first | assumption | rfl | omega) (by first | assumption | rfl | omega)) rfl (ct_195 rfl lk_8_57 (Or.inl rfl) (Nat.le_of_ble_eq_true rfl)) (fun s22 hs22 => ?_)
    obtain ⟨hf23, he24⟩ := hs22
    have hF25 := Fr_tr (lo := 179) (hi := 191) hF15 hf23 (by omega)
    have hk26 : s22 (183) = σ (183) := (hf23 (183) (by omega)).trans hk17
    have hk27 : s22 (184) = σ (184) := (hf23 (184) (by omega)).trans hk18
    have hk28 : s22 (187) = σ (187) := (hf23 (187) (by omega)).trans hk19
    have hk29 : s22 (179) = s13 (179) := (hf23 (179) (by omega))
    have hg30 : ∀ a, a ≠ 5 → a ≠ 7 → a ≠ 10 → ra_g s22 179 a = ra_g σ 179 a := fun a h5 h7 h10 => (ra_gk (hf23 179 (by omega))).trans (hg20 a h5 h7 h10)
    refine ra_load rfl rfl rfl rfl ?_
    refine ra_getI rfl lk_8_54 (Nat.zero_le _) sh_179 rfl ?_
    rw [ra_gk hk29]
    have hr31 : ra_in (ra_g s13 (179) 5) := (ra_in_g _ _ _)
    exact ra_ireturn rfl rfl ⟨⟨_, hr31, rfl⟩, ⟨hF25, hk26, hk28, hg30, (ud_w hpw (by omega) (by omega) ((hs13 184 (by omega)).trans (hs1 184 (by omega))) he24 (ra_gk (hf23 179 (by omega))) (hf23 184 (by omega)))⟩⟩
  · refine ra_iconst rfl ?_
    exact ra_ireturn rfl rfl ⟨⟨_, (by first | omega | (unfold ra_in at *; omega)), rfl⟩, ⟨hF3, hk5, hk7, hg8, (WF_k hk4 hw), (PW_k hpw (ho9 5 (by decide) (by decide)) hk6)⟩⟩
theorem sp_341 {n : Nat} {f : Nat → Int32} {d : Nat}  {σ : ra_V} (hw : WF σ) : ra_C (g_Gs n f) g_sh 0 (d + 3) 341 [.index (179)] σ (fun r s => rI r ∧ Fr (179) (184) σ s ∧ s (180) = σ (180) ∧ s (184) = σ (184) ∧ (∀ a, a ≠ 6 → a ≠ 7 → ra_g s 179 a = ra_g σ 179 a) ∧ WF (rowV s 183 0)) := by
  refine ra_enter (nn := 0) mt_341 rfl (Nat.le_of_ble_eq_true rfl) rfl (fun h => absurd h (by decide +kernel)) ?_
  refine ra_load rfl rfl rfl rfl ?_
  refine ra_iconst rfl ?_
  refine ra_putI rfl lk_8_51 (Nat.zero_le _) sh_179 rfl rfl ?_
  refine ra_newU (by first | omega | (unfold ra_in at *; omega)) (fun s1 hs1 hp2 hp2o => ?_)
  have hp2_99 := hp2o 99 (by decide)
  have hF3 := Fr_tr (lo := 179) (hi := 184) Fr_rf hs1 (by omega)
  have hk4 : s1 (180) = σ (180) := (hs1 (180) (by omega))
  have hk5 : s1 (184) = σ (184) := (hs1 (184) (by omega))
  refine ra_load rfl rfl rfl rfl ?_
  refine ra_getR rfl lk_8_7 (Nat.zero_le _) sh_179 rfl ?_
  refine ra_iconst rfl ?_
  refine ra_load rfl rfl rfl rfl ?_
  refine ra_getR rfl lk_8_19 (Nat.zero_le _) sh_179 rfl ?_
  refine ra_iconst rfl ?_
  refine ra_sipush rfl (by decide) ?_
  refine ra_cV (sp_195 sh_180 (by decide) (by first | omega | (unfold ra_in at *; omega)) sh_183 (by decide) (by first | omega | (unfold ra_in at *; omega)) (by first | omega | (unfold ra_in at *; omega)) (by first | assumption | rfl | omega) (by first | assumption | rfl | omega)) rfl (ct_195 rfl lk_8_57 (Or.inl rfl) (Nat.le_of_ble_eq_true rfl)) (fun s6 hs6 => ?_)
  obtain ⟨hf7, he8⟩ := hs6
  have hF9 := Fr_tr (lo := 179) (hi := 184) hF3 hf7 (by omega)
  have hk10 : s6 (180) = σ (180) := (hf7 (180) (by omega)).trans hk4
  have hk11 : s6 (184) = σ (184) := (hf7 (184) (by omega)).trans hk5
  have hk12 : s6 (179) = s1 (179) := (hf7 (179) (by omega))
  refine ra_load rfl rfl rfl rfl ?_
  refine ra_iconst rfl ?_
  refine ra_putB rfl lk_8_294 (Nat.zero_le _) sh_179 rfl rfl (Or.inr rfl) ?_
  refine ra_newU (ra_in01 (Or.inr rfl)) (fun s13 hs13 hp14 hp14o => ?_)
  have hp14_99 := hp14o 99 (by decide)
  rw [ra_gk hk12] at hp14_99
  have hF15 := Fr_tr (lo := 179) (hi := 184) hF9 hs13 (by omega)
  have hk16 : s13 (180) = σ (180) := (hs13 (180) (by omega)).trans hk10
  have hk17 : s13 (184) = σ (184) := (hs13 (184) (by omega)).trans hk11
  refine ra_load rfl rfl rfl rfl ?_
  refine ra_cIPp (sp_203 (WF_k hk16 hw)) rfl (ct_203 rfl lk_8_298 (Or.inl rfl) sh_179 (Nat.le_of_ble_eq_true rfl)) (fun z19 hz19 hz19p => ?_)
  exact ra_ireturn rfl rfl ⟨⟨_, hz19, rfl⟩, ⟨hF15, hk16, hk17, (fun a h6 h7 => (hp14o a h6).trans ((ra_gk (hf7 179 (by omega))).trans (hp2o a h7))), sv_w hw (hs1 180 (by omega)) he8 (hs13 183 (by omega))⟩⟩
end RB
end
section
/-! the reference: what its methods do (printed by wip/gen/ref.py) -/
section RB
theorem sp_342 {n : Nat} {f : Nat → Int32} {d : Nat}  {σ : ra_V} (hw : WF σ) (hpw : PW σ) (hsv : ra_g σ 179 6 ≠ 0 → WF (rowV σ 183 0)) : ra_C (g_Gs n f) g_sh 0 (d + 3) 342 [.index (179)] σ (fun r s => rI r ∧ Fr (179) (191) σ s ∧ s (183) = σ (183) ∧ s (187) = σ (187) ∧ (∀ a, a ≠ 5 → a ≠ 7 → a ≠ 10 → ra_g s 179 a = ra_g σ 179 a) ∧ WF s ∧ PW s) := by
  refine ra_enter (nn := 0) mt_342 rfl (Nat.le_of_ble_eq_true rfl) rfl (fun h => absurd h (by decide +kernel)) ?_
  have hw0 := WF_a hw
  unfold WFa at hw0
  refine ra_load rfl rfl rfl rfl ?_
  refine ra_iconst rfl ?_
  refine ra_putI rfl lk_8_51 (Nat.zero_le _) sh_179 rfl rfl ?_
  refine ra_newU (by first | omega | (unfold ra_in at *; omega)) (fun s1 hs1 hp2 hp2o => ?_)
  have hp2_6 := hp2o 6 (by decide)
  have hp2_99 := hp2o 99 (by decide)
  have hF3 := Fr_tr (lo := 179) (hi := 191) Fr_rf hs1 (by omega)
  have hk4 : s1 (180) = σ (180) := (hs1 (180) (by omega))
  have hk5 : s1 (183) = σ (183) := (hs1 (183) (by omega))
  have hk6 : s1 (184) = σ (184) := (hs1 (184) (by omega))
  have hk7 : s1 (187) = σ (187) := (hs1 (187) (by omega))
  have hg8 : ∀ a, a ≠ 5 → a ≠ 7 → a ≠ 10 → ra_g s1 179 a = ra_g σ 179 a := fun a h5 h7 h10 => ((fun a h7 h10 => hp2o a h7) a h7 h10).trans ((fun _ _ _ _ => rfl) a h5 h7 h10)
  have ho9 : ∀ a, a ≠ 7 → a ≠ 10 → ra_g s1 179 a = ra_g σ 179 a := fun a h7 h10 => ((fun a h7 h10 => hp2o a h7) a h7 h10).trans ((fun _ _ _ => rfl) a h7 h10)
  refine ra_load rfl rfl rfl rfl ?_
  refine ra_load rfl rfl rfl rfl ?_
  refine ra_getB rfl lk_8_294 (Nat.zero_le _) sh_179 rfl ?_
  refine ra_ifneB rfl rfl (fun h10 => ?_) (fun h10 => ?_)
  · refine ra_iconst rfl ?_
    refine ra_iconst rfl ?_
    refine ra_cT (sp_194 (Or.inl rfl) (by first | omega | (unfold ra_in at *; omega))) rfl (ct_194 rfl lk_8_303 (Or.inl rfl) sh_179 (Nat.le_of_ble_eq_true rfl)) (fun s11 hs11 => ?_)
    obtain ⟨hf12, he13⟩ := hs11
    have hF14 := Fr_tr (lo := 179) (hi := 191) hF3 hf12 (by omega)
    have hk15 : s11 (180) = σ (180) := (hf12 (180) (by omega)).trans hk4
    have hk16 : s11 (183) = σ (183) := (hf12 (183) (by omega)).trans hk5
    have hk17 : s11 (184) = σ (184) := (hf12 (184) (by omega)).trans hk6
    have hk18 : s11 (187) = σ (187) := (hf12 (187) (by omega)).trans hk7
    have hg19 : ∀ a, a ≠ 5 → a ≠ 7 → a ≠ 10 → ra_g s11 179 a = ra_g σ 179 a := fun a h5 h7 h10 => ((fun a h7 h10 => he13 a h7) a h7 h10).trans (hg8 a h5 h7 h10)
    have ho20 : ∀ a, a ≠ 7 → a ≠ 10 → ra_g s11 179 a = ra_g σ 179 a := fun a h7 h10 => ((fun a h7 h10 => he13 a h7) a h7 h10).trans (ho9 a h7 h10)
    refine ra_ifeq rfl rfl (by first | omega | (unfold ra_in at *; omega)) (fun h21 => ?_) (fun h21 => ?_)
    · refine ra_load rfl rfl rfl rfl ?_
      refine ra_getR rfl lk_8_19 (Nat.zero_le _) sh_179 rfl ?_
      refine ra_iconst rfl ?_
      refine ra_load rfl rfl rfl rfl ?_
      refine ra_getR rfl lk_8_7 (Nat.zero_le _) sh_179 rfl ?_
      refine ra_iconst rfl ?_
      refine ra_sipush rfl (by decide) ?_
      refine ra_cV (sp_195 sh_183 (by decide) (by first | omega | (unfold ra_in at *; omega)) sh_180 (by decide) (by first | omega | (unfold ra_in at *; omega)) (by first | omega | (unfold ra_in at *; omega)) (by first | assumption | rfl | omega) (by first | assumption | rfl | omega)) rfl (ct_195 rfl lk_8_57 (Or.inl rfl) (Nat.le_of_ble_eq_true rfl)) (fun s22 hs22 => ?_)
      obtain ⟨hf23, he24⟩ := hs22
      have hF25 := Fr_tr (lo := 179) (hi := 191) hF14 hf23 (by omega)
      have hk26 : s22 (183) = σ (183) := (hf23 (183) (by omega)).trans hk16
      have hk27 : s22 (184) = σ (184) := (hf23 (184) (by omega)).trans hk17
      have hk28 : s22 (187) = σ (187) := (hf23 (187) (by omega)).trans hk18
      have hg29 : ∀ a, a ≠ 5 → a ≠ 7 → a ≠ 10 → ra_g s22 179 a = ra_g σ 179 a := fun a h5 h7 h10 => (ra_gk (hf23 179 (by omega))).trans (hg19 a h5 h7 h10)
      have ho30 : ∀ a, a ≠ 7 → a ≠ 10 → ra_g s22 179 a = ra_g σ 179 a := fun a h7 h10 => (ra_gk (hf23 179 (by omega))).trans (ho20 a h7 h10)
      refine ra_load rfl rfl rfl rfl ?_
      refine ra_iconst rfl ?_
      refine ra_putI rfl lk_8_54 (Nat.zero_le _) sh_179 rfl rfl ?_
      refine ra_newU (by first | omega | (unfold ra_in at *; omega)) (fun s31 hs31 hp32 hp32o => ?_)
      have hp32_6 := hp32o 6 (by decide)
      have hp32_99 := hp32o 99 (by decide)
      have hF33 := Fr_tr (lo := 179) (hi := 191) hF25 hs31 (by omega)
      have hk34 : s31 (183) = σ (183) := (hs31 (183) (by omega)).trans hk26
      have hk35 : s31 (184) = σ (184) := (hs31 (184) (by omega)).trans hk27
      have hk36 : s31 (187) = σ (187) := (hs31 (187) (by omega)).trans hk28
      have hg37 : ∀ a, a ≠ 5 → a ≠ 7 → a ≠ 10 → ra_g s31 179 a = ra_g σ 179 a := fun a h5 h7 h10 => ((fun a h5 h7 h10 => hp32o a h5) a h5 h7 h10).trans (hg29 a h5 h7 h10)
      refine ra_load rfl rfl rfl rfl ?_
      refine ra_cIPp (sp_203 (rs_w (hsv (by omega)) ((hf12 183 (by omega)).trans (hs1 183 (by omega))) he24 (hs31 180 (by omega)) hp32).1) rfl (ct_203 rfl lk_8_298 (Or.inl rfl) sh_179 (Nat.le_of_ble_eq_true rfl)) (fun z39 hz39 hz39p => ?_)
      exact ra_ireturn rfl rfl ⟨⟨_, hz39, rfl⟩, ⟨hF33, hk34, hk36, hg37, (rs_w (hsv (by omega)) ((hf12 183 (by omega)).trans (hs1 183 (by omega))) he24 (hs31 180 (by omega)) hp32)⟩⟩
    · exact absurd h21 (by decide)
  · refine ra_iconst rfl ?_
    refine ra_goto rfl rfl ?_
    refine ra_iconst rfl ?_
    refine ra_cT (sp_194 (Or.inr rfl) (by first | omega | (unfold ra_in at *; omega))) rfl (ct_194 rfl lk_8_303 (Or.inl rfl) sh_179 (Nat.le_of_ble_eq_true rfl)) (fun s40 hs40 => ?_)
    obtain ⟨hf41, he42⟩ := hs40
    have hF43 := Fr_tr (lo := 179) (hi := 191) hF3 hf41 (by omega)
    have hk44 : s40 (180) = σ (180) := (hf41 (180) (by omega)).trans hk4
    have hk45 : s40 (183) = σ (183) := (hf41 (183) (by omega)).trans hk5
    have hk46 : s40 (184) = σ (184) := (hf41 (184) (by omega)).trans hk6
    have hk47 : s40 (187) = σ (187) := (hf41 (187) (by omega)).trans hk7
    have hg48 : ∀ a, a ≠ 5 → a ≠ 7 → a ≠ 10 → ra_g s40 179 a = ra_g σ 179 a := fun a h5 h7 h10 => ((fun a h7 h10 => he42 a h7) a h7 h10).trans (hg8 a h5 h7 h10)
    have ho49 : ∀ a, a ≠ 7 → a ≠ 10 → ra_g s40 179 a = ra_g σ 179 a := fun a h7 h10 => ((fun a h7 h10 => he42 a h7) a h7 h10).trans (ho9 a h7 h10)
    refine ra_ifeq rfl rfl (by first | omega | (unfold ra_in at *; omega)) (fun h50 => ?_) (fun h50 => ?_)
    · exact absurd h50 (by decide)
    · refine ra_iconst rfl ?_
      exact ra_ireturn rfl rfl ⟨⟨_, (by first | omega | (unfold ra_in at *; omega)), rfl⟩, ⟨hF43, hk45, hk47, hg48, (WF_k hk44 hw), (PW_k hpw (ho49 5 (by decide) (by decide)) hk46)⟩⟩
end RB
end
section
/-! the reference: what its methods do (printed by wip/gen/ref.py) -/
section RB
theorem lp_246_3 {n : Nat} {f : Nat → Int32} {d : Nat} {x0 : Int} {σ : ra_V} (hx0 : ra_in x0) (hn : 0 ≤ ra_g σ 179 12 ∧ ra_g σ 179 12 + 4 ≤ 500) : ∀ (nn : Nat) (v2 : Int) (s : ra_V) (hv2_0 : -8 ≤ v2) (hv2_1 : v2 ≤ 24) (hv2_2 : v2 % 8 = 0) (hF : Fr (179) (188) σ s) (hk0 : s (180) = σ (180)) (hk1 : s (183) = σ (183)) (hk2 : s (184) = σ (184)) (ho12 : ∀ a, a ≠ 12 → ra_g s 179 a = ra_g σ 179 a) (hn12 : 8 * ra_g s 179 12 = 8 * ra_g σ 179 12 + 24 - v2) (hm : ((v2 + 9 : Int)).toNat < nn), ra_P (g_Gs n f) g_sh 0 (d + 0) g_m_X8_appendWord 3 [some (.index (179)), some (ra_I x0), some (ra_I v2)] [] s (fun r s => rV r ∧ Fr (179) (188) σ s ∧ s (180) = σ (180) ∧ s (183) = σ (183) ∧ s (184) = σ (184) ∧ (∀ a, a ≠ 12 → ra_g s 179 a = ra_g σ 179 a) ∧ ra_g s 179 12 = ra_g σ 179 12 + 4) := by
  intro nn
  induction nn with
  | zero => intro v2 s hv2_0 hv2_1 hv2_2 hF hk0 hk1 hk2 ho12 hn12 hm; exact absurd hm (Nat.not_lt_zero _)
  | succ nn ih =>
    intro v2 s hv2_0 hv2_1 hv2_2 hF hk0 hk1 hk2 ho12 hn12 hm
    refine ra_load rfl rfl rfl rfl ?_
    refine ra_iflt rfl rfl (by first | omega | (unfold ra_in at *; omega)) (fun h1 => ?_) (fun h1 => ?_)
    · exact ra_return rfl rfl ⟨rfl, ⟨hF, hk0, hk1, hk2, ho12, by omega⟩⟩
    · refine ra_load rfl rfl rfl rfl ?_
      refine ra_getR rfl lk_8_31 (Nat.zero_le _) sh_179 rfl ?_
      refine ra_load rfl rfl rfl rfl ?_
      refine ra_getI rfl lk_8_186 (Nat.zero_le _) sh_179 rfl ?_
      have hr2 : ra_in (ra_g s (179) 12) := (ra_in_g _ _ _)
      refine ra_load rfl rfl rfl rfl ?_
      refine ra_load rfl rfl rfl rfl ?_
      refine ra_ishr rfl ?_
      refine ra_sipush rfl (by decide) ?_
      refine ra_iand rfl ?_
      refine ra_iastore rfl sh_187 rfl (by decide) (by first | omega | (unfold ra_in at *; omega)) (by first | omega | (unfold ra_in at *; omega)) ?_
      refine ra_newR (ra_in_op _ _ _) (fun s3 hs3 hs3v hs3o => ?_)
      have hF4 := Fr_tr (lo := 179) (hi := 188) hF hs3 (by omega)
      have hk5 : s3 (180) = σ (180) := (hs3 (180) (by omega)).trans hk0
      have hk6 : s3 (183) = σ (183) := (hs3 (183) (by omega)).trans hk1
      have hk7 : s3 (184) = σ (184) := (hs3 (184) (by omega)).trans hk2
      have hk8 : s3 (179) = s (179) := (hs3 (179) (by omega))
      refine ra_load rfl rfl rfl rfl ?_
      refine ra_dup rfl rfl ?_
      refine ra_getI rfl lk_8_186 (Nat.zero_le _) sh_179 rfl ?_
      rw [ra_gk hk8]
      have hr9 : ra_in (ra_g s (179) 12) := (ra_in_g _ _ _)
      refine ra_iconst rfl ?_
      refine ra_iadd rfl ?_
      refine ra_putI rfl lk_8_186 (Nat.zero_le _) sh_179 rfl rfl ?_
      refine ra_newU (by first | omega | (unfold ra_in at *; omega)) (fun s10 hs10 hp11 hp11o => ?_)
      have hp11_99 := hp11o 99 (by decide)
      rw [ra_gk hk8] at hp11_99
      have hF12 := Fr_tr (lo := 179) (hi := 188) hF4 hs10 (by omega)
      have hk13 : s10 (180) = σ (180) := (hs10 (180) (by omega)).trans hk5
      have hk14 : s10 (183) = σ (183) := (hs10 (183) (by omega)).trans hk6
      have hk15 : s10 (184) = σ (184) := (hs10 (184) (by omega)).trans hk7
      refine ra_iinc (L' := [_, _, _]) rfl rfl (Nat.le_of_ble_eq_true rfl) rfl ?_
      refine ra_goto rfl rfl ?_
      exact ra_weak (by repeat' constructor) (ih (v2 + (-8)) s10 (by first | omega | (unfold ra_in at *; omega)) (by first | omega | (unfold ra_in at *; omega)) (by first | omega | (unfold ra_in at *; omega)) hF12 hk13 hk14 hk15 (fun a h => (hp11o a h).trans ((ra_gk (hs3 179 (by omega))).trans (ho12 a h))) (by omega) (by first | omega | (unfold ra_in at *; omega)))
theorem sp_246 {n : Nat} {f : Nat → Int32} {d : Nat} {x0 : Int} {σ : ra_V} (hx0 : ra_in x0) (hn : 0 ≤ ra_g σ 179 12 ∧ ra_g σ 179 12 + 4 ≤ 500) : ra_C (g_Gs n f) g_sh 0 (d + 1) 246 [.index (179), ra_I x0] σ (fun r s => rV r ∧ Fr (179) (188) σ s ∧ s (180) = σ (180) ∧ s (183) = σ (183) ∧ s (184) = σ (184) ∧ (∀ a, a ≠ 12 → ra_g s 179 a = ra_g σ 179 a) ∧ ra_g s 179 12 = ra_g σ 179 12 + 4) := by
  refine ra_enter (nn := 1) mt_246 rfl (Nat.le_of_ble_eq_true rfl) rfl (fun h => absurd h (by decide +kernel)) ?_
  refine ra_bipush rfl (by decide) ?_
  refine ra_store (L' := [_, _, _]) rfl rfl rfl (Nat.le_of_ble_eq_true rfl) rfl ?_
  exact ra_weak (by repeat' constructor) (lp_246_3 hx0 hn _ (24) σ (by first | omega | (unfold ra_in at *; omega)) (by first | omega | (unfold ra_in at *; omega)) (by first | omega | (unfold ra_in at *; omega)) Fr_rf rfl rfl rfl (fun _ _ => rfl) (by omega) (Nat.lt_succ_self _))
theorem sp_247 {n : Nat} {f : Nat → Int32} {d : Nat} {x0 : Int} {x1 : Int} {x2 : Int} {x3 : Int} {x4 : Int} {σ : ra_V} (hx0 : ra_in x0) (hx1 : ra_in x1) (hx2 : ra_in x2) (hx3 : ra_in x3) (hx4 : ra_in x4) (hn0 : 0 ≤ ra_g σ 179 12 ∧ ra_g σ 179 12 ≤ 500) : ra_C (g_Gs n f) g_sh 0 (d + 2) 247 [.index (179), ra_I x0, ra_I x1, ra_I x2, ra_I x3, ra_I x4] σ (fun r s => rI r ∧ Fr (179) (188) σ s ∧ s (180) = σ (180) ∧ s (183) = σ (183) ∧ s (184) = σ (184) ∧ (∀ a, a ≠ 7 → a ≠ 12 → ra_g s 179 a = ra_g σ 179 a) ∧ (ra_g σ 179 12 + 20 ≤ 500 → ra_g s 179 12 = ra_g σ 179 12 + 20) ∧ (500 < ra_g σ 179 12 + 20 → ra_g s 179 12 = ra_g σ 179 12)) := by
  refine ra_enter (nn := 0) mt_247 rfl (Nat.le_of_ble_eq_true rfl) rfl (fun h => absurd h (by decide +kernel)) ?_
  refine ra_load rfl rfl rfl rfl ?_
  refine ra_iconst rfl ?_
  refine ra_putI rfl lk_8_51 (Nat.zero_le _) sh_179 rfl rfl ?_
  refine ra_newU (by first | omega | (unfold ra_in at *; omega)) (fun s1 hs1 hp2 hp2o => ?_)
  have hp2_12 := hp2o 12 (by decide)
  have hF3 := Fr_tr (lo := 179) (hi := 188) Fr_rf hs1 (by omega)
  have hk4 : s1 (180) = σ (180) := (hs1 (180) (by omega))
  have hk5 : s1 (183) = σ (183) := (hs1 (183) (by omega))
  have hk6 : s1 (184) = σ (184) := (hs1 (184) (by omega))
  refine ra_load rfl rfl rfl rfl ?_
  refine ra_getI rfl lk_8_186 (Nat.zero_le _) sh_179 rfl ?_
  have hr7 : ra_in (ra_g s1 (179) 12) := (ra_in_g _ _ _)
  refine ra_bipush rfl (by decide) ?_
  refine ra_iadd rfl ?_
  refine ra_sipush rfl (by decide) ?_
  refine ra_icle rfl rfl (by first | omega | (unfold ra_in at *; omega)) (by first | omega | (unfold ra_in at *; omega)) (fun h8 => ?_) (fun h8 => ?_)
  · refine ra_load rfl rfl rfl rfl ?_
    refine ra_load rfl rfl rfl rfl ?_
    refine ra_cV (sp_246 hx0 (by first | assumption | rfl | omega)) rfl (ct_246 rfl lk_8_189 (Or.inl rfl) sh_179 (Nat.le_of_ble_eq_true rfl)) (fun s9 hs9 => ?_)
    obtain ⟨hf10, hc11, hc12, hc13, he14, he15⟩ := hs9
    have hF16 := Fr_tr (lo := 179) (hi := 188) hF3 hf10 (by omega)
    have hk17 : s9 (180) = σ (180) := hc11.trans hk4
    have hk18 : s9 (183) = σ (183) := hc12.trans hk5
    have hk19 : s9 (184) = σ (184) := hc13.trans hk6
    refine ra_load rfl rfl rfl rfl ?_
    refine ra_load rfl rfl rfl rfl ?_
    refine ra_cV (sp_246 hx1 (by first | assumption | rfl | omega)) rfl (ct_246 rfl lk_8_189 (Or.inl rfl) sh_179 (Nat.le_of_ble_eq_true rfl)) (fun s20 hs20 => ?_)
    obtain ⟨hf21, hc22, hc23, hc24, he25, he26⟩ := hs20
    have hF27 := Fr_tr (lo := 179) (hi := 188) hF16 hf21 (by omega)
    have hk28 : s20 (180) = σ (180) := hc22.trans hk17
    have hk29 : s20 (183) = σ (183) := hc23.trans hk18
    have hk30 : s20 (184) = σ (184) := hc24.trans hk19
    refine ra_load rfl rfl rfl rfl ?_
    refine ra_load rfl rfl rfl rfl ?_
    refine ra_cV (sp_246 hx2 (by first | assumption | rfl | omega)) rfl (ct_246 rfl lk_8_189 (Or.inl rfl) sh_179 (Nat.le_of_ble_eq_true rfl)) (fun s31 hs31 => ?_)
    obtain ⟨hf32, hc33, hc34, hc35, he36, he37⟩ := hs31
    have hF38 := Fr_tr (lo := 179) (hi := 188) hF27 hf32 (by omega)
    have hk39 : s31 (180) = σ (180) := hc33.trans hk28
    have hk40 : s31 (183) = σ (183) := hc34.trans hk29
    have hk41 : s31 (184) = σ (184) := hc35.trans hk30
    refine ra_load rfl rfl rfl rfl ?_
    refine ra_load rfl rfl rfl rfl ?_
    refine ra_cV (sp_246 hx3 (by first | assumption | rfl | omega)) rfl (ct_246 rfl lk_8_189 (Or.inl rfl) sh_179 (Nat.le_of_ble_eq_true rfl)) (fun s42 hs42 => ?_)
    obtain ⟨hf43, hc44, hc45, hc46, he47, he48⟩ := hs42
    have hF49 := Fr_tr (lo := 179) (hi := 188) hF38 hf43 (by omega)
    have hk50 : s42 (180) = σ (180) := hc44.trans hk39
    have hk51 : s42 (183) = σ (183) := hc45.trans hk40
    have hk52 : s42 (184) = σ (184) := hc46.trans hk41
    refine ra_load rfl rfl rfl rfl ?_
    refine ra_load rfl rfl rfl rfl ?_
    refine ra_cV (sp_246 hx4 (by first | assumption | rfl | omega)) rfl (ct_246 rfl lk_8_189 (Or.inl rfl) sh_179 (Nat.le_of_ble_eq_true rfl)) (fun s53 hs53 => ?_)
    obtain ⟨hf54, hc55, hc56, hc57, he58, he59⟩ := hs53
    have hF60 := Fr_tr (lo := 179) (hi := 188) hF49 hf54 (by omega)
    have hk61 : s53 (180) = σ (180) := hc55.trans hk50
    have hk62 : s53 (183) = σ (183) := hc56.trans hk51
    have hk63 : s53 (184) = σ (184) := hc57.trans hk52
    refine ra_load rfl rfl rfl rfl ?_
    refine ra_getI rfl lk_8_186 (Nat.zero_le _) sh_179 rfl ?_
    have hr64 : ra_in (ra_g s53 (179) 12) := (ra_in_g _ _ _)
    exact ra_ireturn rfl rfl ⟨⟨_, hr64, rfl⟩, ⟨hF60, hk61, hk62, hk63, (fun a h7 h12 => ((he58 a h12).trans ((he47 a h12).trans ((he36 a h12).trans ((he25 a h12).trans ((he14 a h12).trans (hp2o a h7))))))), (fun q => by omega), (fun q => by omega)⟩⟩
  · refine ra_iconst rfl ?_
    exact ra_ireturn rfl rfl ⟨⟨_, (by first | omega | (unfold ra_in at *; omega)), rfl⟩, ⟨hF3, hk4, hk5, hk6, (fun a h7 h12 => (hp2o a h7)), (fun q => by omega), (fun q => by omega)⟩⟩
end RB
end
section
/-! the reference: what its methods do (printed by wip/gen/ref.py) -/
section RB
theorem sp_248 {n : Nat} {f : Nat → Int32} {d : Nat} {x0 : Int} {σ : ra_V} (hx0 : ra_in x0) (hn0 : 0 ≤ ra_g σ 179 12 ∧ ra_g σ 179 12 ≤ 500) : ra_C (g_Gs n f) g_sh 0 (d + 2) 248 [.index (179), ra_I x0] σ (fun r s => r = .inl (some (ra_B (0 ≤ x0 ∧ x0 ≤ ra_g σ 179 12))) ∧ Fr (179) (180) σ s ∧ (∀ a, a ≠ 7 → a ≠ 12 → ra_g s 179 a = ra_g σ 179 a) ∧ ((0 ≤ x0 ∧ x0 ≤ ra_g σ 179 12) → ra_g s 179 12 = x0) ∧ (¬ (0 ≤ x0 ∧ x0 ≤ ra_g σ 179 12) → ra_g s 179 12 = ra_g σ 179 12)) := by
  refine ra_enter (nn := 0) mt_248 rfl (Nat.le_of_ble_eq_true rfl) rfl (fun h => absurd h (by decide +kernel)) ?_
  refine ra_load rfl rfl rfl rfl ?_
  refine ra_iconst rfl ?_
  refine ra_putI rfl lk_8_51 (Nat.zero_le _) sh_179 rfl rfl ?_
  refine ra_newU (by first | omega | (unfold ra_in at *; omega)) (fun s1 hs1 hp2 hp2o => ?_)
  have hp2_12 := hp2o 12 (by decide)
  have hF3 := Fr_tr (lo := 179) (hi := 180) Fr_rf hs1 (by omega)
  have hk4 : s1 (180) = σ (180) := (hs1 (180) (by omega))
  refine ra_load rfl rfl rfl rfl ?_
  refine ra_i2l rfl hx0 ?_
  refine ra_lconst0 rfl ?_
  refine ra_load rfl rfl rfl rfl ?_
  refine ra_getI rfl lk_8_186 (Nat.zero_le _) sh_179 rfl ?_
  have hr5 : ra_in (ra_g s1 (179) 12) := (ra_in_g _ _ _)
  refine ra_i2l rfl hr5 ?_
  refine ra_cTp (sp_193 hx0 (by first | omega | (unfold ra_in at *; omega)) hr5) rfl (ct_193 rfl lk_8_63 (Or.inl rfl) (Nat.le_of_ble_eq_true rfl)) ?_
  refine ra_ifneB rfl rfl (fun h7 => ?_) (fun h7 => ?_)
  · refine ra_load rfl rfl rfl rfl ?_
    refine ra_load rfl rfl rfl rfl ?_
    refine ra_putI rfl lk_8_186 (Nat.zero_le _) sh_179 rfl rfl ?_
    refine ra_newU hx0 (fun s8 hs8 hp9 hp9o => ?_)
    have hF10 := Fr_tr (lo := 179) (hi := 180) hF3 hs8 (by omega)
    have hk11 : s8 (180) = σ (180) := (hs8 (180) (by omega)).trans hk4
    refine ra_iconst rfl ?_
    exact ra_ireturn rfl (ra_okB (Or.inr rfl)) ⟨(by unfold ra_B; rw [if_pos (by omega)]), ⟨hF10, (fun a h7 h12 => ((hp9o a h12).trans (hp2o a h7))), (fun q => by omega), (fun q => by omega)⟩⟩
  · refine ra_iconst rfl ?_
    exact ra_ireturn rfl (ra_okB (Or.inl rfl)) ⟨(by unfold ra_B; rw [if_neg (by omega)]), ⟨hF3, (fun a h7 h12 => (hp2o a h7)), (fun q => by omega), (fun q => by omega)⟩⟩
theorem sp_249 {n : Nat} {f : Nat → Int32} {d : Nat} {x0 : Int} {σ : ra_V} (hx0 : ra_in x0) (hn0 : 0 ≤ ra_g σ 179 12 ∧ ra_g σ 179 12 ≤ 500) (hi : 0 ≤ x0) : ra_C (g_Gs n f) g_sh 0 (d + 1) 249 [.index (179), ra_I x0] σ (fun r s => (∃ z, ra_in z ∧ ((x0 < ra_g σ 179 12 → z = ra_g σ 187 x0.toNat) ∧ (ra_g σ 179 12 ≤ x0 → z = -1)) ∧ r = .inl (some (ra_I z))) ∧ s = σ) := by
  refine ra_enter (nn := 0) mt_249 rfl (Nat.le_of_ble_eq_true rfl) rfl (fun h => absurd h (by decide +kernel)) ?_
  refine ra_load rfl rfl rfl rfl ?_
  refine ra_load rfl rfl rfl rfl ?_
  refine ra_getI rfl lk_8_186 (Nat.zero_le _) sh_179 rfl ?_
  have hr1 : ra_in (ra_g σ (179) 12) := (ra_in_g _ _ _)
  refine ra_icge rfl rfl hx0 hr1 (fun h2 => ?_) (fun h2 => ?_)
  · refine ra_iconst rfl ?_
    exact ra_ireturn rfl rfl ⟨⟨_, (by first | omega | (unfold ra_in at *; omega)), ⟨fun q => by first | rfl | (exfalso; omega), fun q => by first | rfl | (exfalso; omega)⟩, rfl⟩, rfl⟩
  · refine ra_load rfl rfl rfl rfl ?_
    refine ra_getR rfl lk_8_31 (Nat.zero_le _) sh_179 rfl ?_
    refine ra_load rfl rfl rfl rfl ?_
    refine ra_iaload rfl sh_187 rfl (by decide) (by first | omega | (unfold ra_in at *; omega)) (by first | omega | (unfold ra_in at *; omega)) ?_
    have hr3 : ra_in (ra_g σ (187) x0.toNat) := (ra_in_g _ _ _)
    refine ra_goto rfl rfl ?_
    exact ra_ireturn rfl rfl ⟨⟨_, hr3, ⟨fun q => by first | rfl | (exfalso; omega), fun q => by first | rfl | (exfalso; omega)⟩, rfl⟩, rfl⟩
end RB
end
section
/-! the reference: what its methods do (printed by wip/gen/ref.py) -/
section RB
theorem sp_335 {n : Nat} {f : Nat → Int32} {d : Nat} {x0 : Int} {σ : ra_V} (hx0 : ra_in x0) (ho : 0 ≤ ra_g σ 179 25 ∧ ra_g σ 179 25 < 150) : ra_C (g_Gs n f) g_sh 0 (d + 1) 335 [.index (179), ra_I x0] σ (fun r s => rV r ∧ Fr (179) (191) σ s ∧ s (180) = σ (180) ∧ s (183) = σ (183) ∧ s (184) = σ (184) ∧ s (187) = σ (187) ∧ (∀ a, a ≠ 25 → ra_g s 179 a = ra_g σ 179 a) ∧ ra_g s 179 25 = ra_g σ 179 25 + 1) := by
  refine ra_enter (nn := 0) mt_335 rfl (Nat.le_of_ble_eq_true rfl) rfl (fun h => absurd h (by decide +kernel)) ?_
  refine ra_load rfl rfl rfl rfl ?_
  refine ra_getR rfl lk_8_44 (Nat.zero_le _) sh_179 rfl ?_
  refine ra_load rfl rfl rfl rfl ?_
  refine ra_getI rfl lk_8_427 (Nat.zero_le _) sh_179 rfl ?_
  have hr1 : ra_in (ra_g σ (179) 25) := (ra_in_g _ _ _)
  refine ra_load rfl rfl rfl rfl ?_
  refine ra_iastore rfl sh_190 rfl (by decide) (by first | omega | (unfold ra_in at *; omega)) (by first | omega | (unfold ra_in at *; omega)) ?_
  refine ra_new Fr_up (fun s2 hs2 => ?_)
  have hF3 := Fr_tr (lo := 179) (hi := 191) Fr_rf hs2 (by omega)
  have hk4 : s2 (180) = σ (180) := (hs2 (180) (by omega))
  have hk5 : s2 (183) = σ (183) := (hs2 (183) (by omega))
  have hk6 : s2 (184) = σ (184) := (hs2 (184) (by omega))
  have hk7 : s2 (187) = σ (187) := (hs2 (187) (by omega))
  have hk8 : s2 (179) = σ (179) := (hs2 (179) (by omega))
  refine ra_load rfl rfl rfl rfl ?_
  refine ra_dup rfl rfl ?_
  refine ra_getI rfl lk_8_427 (Nat.zero_le _) sh_179 rfl ?_
  rw [ra_gk hk8]
  have hr9 : ra_in (ra_g σ (179) 25) := (ra_in_g _ _ _)
  refine ra_iconst rfl ?_
  refine ra_iadd rfl ?_
  refine ra_putI rfl lk_8_427 (Nat.zero_le _) sh_179 rfl rfl ?_
  refine ra_newU (by first | omega | (unfold ra_in at *; omega)) (fun s10 hs10 hp11 hp11o => ?_)
  have hp11_99 := hp11o 99 (by decide)
  rw [ra_gk hk8] at hp11_99
  have hF12 := Fr_tr (lo := 179) (hi := 191) hF3 hs10 (by omega)
  have hk13 : s10 (180) = σ (180) := (hs10 (180) (by omega)).trans hk4
  have hk14 : s10 (183) = σ (183) := (hs10 (183) (by omega)).trans hk5
  have hk15 : s10 (184) = σ (184) := (hs10 (184) (by omega)).trans hk6
  have hk16 : s10 (187) = σ (187) := (hs10 (187) (by omega)).trans hk7
  exact ra_return rfl rfl ⟨rfl, ⟨hF12, hk13, hk14, hk15, hk16, (fun a h => (hp11o a h).trans (ra_gk (hs2 179 (by omega)))), by omega⟩⟩
theorem sp_251 {n : Nat} {f : Nat → Int32} {d : Nat}  {σ : ra_V} (hpi : 0 ≤ ra_g σ 179 18 ∧ ra_g σ 179 18 ≤ ra_g σ 179 17 ∧ ra_g σ 179 17 ≤ ra_g σ 179 12 ∧ ra_g σ 179 12 ≤ 500) : ra_C (g_Gs n f) g_sh 0 (d + 1) 251 [.index (179)] σ (fun r s => r = .inl (some (ra_I (ra_g σ 179 17 - ra_g σ 179 18))) ∧ s = σ) := by
  refine ra_enter (nn := 0) mt_251 rfl (Nat.le_of_ble_eq_true rfl) rfl (fun h => absurd h (by decide +kernel)) ?_
  refine ra_load rfl rfl rfl rfl ?_
  refine ra_getI rfl lk_8_192 (Nat.zero_le _) sh_179 rfl ?_
  have hr1 : ra_in (ra_g σ (179) 17) := (ra_in_g _ _ _)
  refine ra_load rfl rfl rfl rfl ?_
  refine ra_getI rfl lk_8_198 (Nat.zero_le _) sh_179 rfl ?_
  have hr2 : ra_in (ra_g σ (179) 18) := (ra_in_g _ _ _)
  refine ra_isub rfl ?_
  exact ra_ireturn rfl rfl ⟨(congrArg (fun z => Sum.inl (some (ra_I z))) (by first | rfl | omega)), rfl⟩
theorem sp_252 {n : Nat} {f : Nat → Int32} {d : Nat} {x0 : Int} {σ : ra_V} (hx0 : ra_in x0) : ra_C (g_Gs n f) g_sh 0 (d + 1) 252 [.index (179), ra_I x0] σ (fun r s => (∃ z : Int, (z = 0 ∨ z = 1) ∧ (z = 0) ∧ r = .inl (some (ra_I z))) ∧ Fr (179) (180) σ s ∧ (∀ a, a ≠ 15 → a ≠ 16 → ra_g s 179 a = ra_g σ 179 a)) := by
  refine ra_enter (nn := 0) mt_252 rfl (Nat.le_of_ble_eq_true rfl) rfl (fun h => absurd h (by decide +kernel)) ?_
  refine ra_load rfl rfl rfl rfl ?_
  refine ra_getI rfl lk_8_215 (Nat.zero_le _) sh_179 rfl ?_
  have hr1 : ra_in (ra_g σ (179) 15) := (ra_in_g _ _ _)
  refine ra_ifne rfl rfl hr1 (fun h2 => ?_) (fun h2 => ?_)
  · refine ra_iconst rfl ?_
    exact ra_ireturn rfl (ra_okB (Or.inl rfl)) ⟨⟨_, (Or.inl rfl), rfl, rfl⟩, ⟨Fr_rf, (fun a h15 h16 => rfl)⟩⟩
  · refine ra_load rfl rfl rfl rfl ?_
    refine ra_load rfl rfl rfl rfl ?_
    refine ra_putI rfl lk_8_215 (Nat.zero_le _) sh_179 rfl rfl ?_
    refine ra_newU hx0 (fun s3 hs3 hp4 hp4o => ?_)
    have hp4_99 := hp4o 99 (by decide)
    have hF5 := Fr_tr (lo := 179) (hi := 180) Fr_rf hs3 (by omega)
    refine ra_load rfl rfl rfl rfl ?_
    refine ra_load rfl rfl rfl rfl ?_
    refine ra_getI rfl lk_8_198 (Nat.zero_le _) sh_179 rfl ?_
    have hr6 : ra_in (ra_g s3 (179) 18) := (ra_in_g _ _ _)
    refine ra_putI rfl lk_8_218 (Nat.zero_le _) sh_179 rfl rfl ?_
    refine ra_newU hr6 (fun s7 hs7 hp8 hp8o => ?_)
    have hp8_99 := hp8o 99 (by decide)
    have hF9 := Fr_tr (lo := 179) (hi := 180) hF5 hs7 (by omega)
    refine ra_iconst rfl ?_
    exact ra_ireturn rfl (ra_okB (Or.inl rfl)) ⟨⟨_, (Or.inl rfl), rfl, rfl⟩, ⟨hF9, (fun a h15 h16 => ((hp8o a h16).trans (hp4o a h15)))⟩⟩
end RB
end
section
/-! the reference: what its methods do (printed by wip/gen/ref.py) -/
section RB
theorem lp_334_32 {n : Nat} {f : Nat → Int32} {d : Nat} {x0 : Int} {x1 : Int} {σ : ra_V} (hx0 : ra_in x0) (hx1 : ra_in x1) (hw : WF σ) (hpw : PW σ) : ∀ (nn : Nat) (v3 : Int) (v4 : Int) (v5 : Int) (v6 : Int) (s : ra_V) (hv3_0 : 1 ≤ v3) (hv3_1 : v3 ≤ 16) (hv4_0 : ra_in v4) (hv5_0 : ra_in v5) (hv6_0 : 1 ≤ v6) (hv6_1 : v6 ≤ 17) (hF : Fr (179) (191) σ s) (hk0 : s (183) = σ (183)) (hk1 : s (187) = σ (187)) (hws : WF s) (hps : PW s) (hsp : 0 ≤ x0 ∧ x0 < 8 ∧ wq s x0 0 = 1) (ho3 : ∀ a, a ≠ 5 → a ≠ 7 → a ≠ 10 → ra_g s 179 a = ra_g σ 179 a) (hm : ((17 - v6 : Int)).toNat < nn), ra_P (g_Gs n f) g_sh 0 (d + 4) g_m_X8_bestChunk 32 [some (.index (179)), some (ra_I x0), some (ra_I x1), some (ra_I v3), some (ra_I v4), some (ra_I v5), some (ra_I v6), none] [] s (fun r s => rI r ∧ Fr (179) (191) σ s ∧ s (183) = σ (183) ∧ s (187) = σ (187) ∧ (∀ a, a ≠ 5 → a ≠ 7 → a ≠ 10 → ra_g s 179 a = ra_g σ 179 a) ∧ WF s ∧ PW s) := by
  intro nn
  induction nn with
  | zero => intro v3 v4 v5 v6 s hv3_0 hv3_1 hv4_0 hv5_0 hv6_0 hv6_1 hF hk0 hk1 hws hps hsp ho3 hm; exact absurd hm (Nat.not_lt_zero _)
  | succ nn ih =>
    intro v3 v4 v5 v6 s hv3_0 hv3_1 hv4_0 hv5_0 hv6_0 hv6_1 hF hk0 hk1 hws hps hsp ho3 hm
    refine ra_load rfl rfl rfl rfl ?_
    refine ra_bipush rfl (by decide) ?_
    refine ra_icgt rfl rfl (by first | omega | (unfold ra_in at *; omega)) (by first | omega | (unfold ra_in at *; omega)) (fun h23 => ?_) (fun h23 => ?_)
    · refine ra_load rfl rfl rfl rfl ?_
      refine ra_getR rfl lk_8_7 (Nat.zero_le _) sh_179 rfl ?_
      refine ra_iconst rfl ?_
      refine ra_load rfl rfl rfl rfl ?_
      refine ra_iastoreJ (j := 4) rfl sh_180 rfl (by decide) rfl (by decide) ?_
      refine ra_newR (by first | omega | (unfold ra_in at *; omega)) (fun s24 hs24 hs24v hs24o => ?_)
      have hF25 := Fr_tr (lo := 179) (hi := 191) hF hs24 (by omega)
      have hk26 : s24 (183) = σ (183) := (hs24 (183) (by omega)).trans hk0
      have hk27 : s24 (187) = σ (187) := (hs24 (187) (by omega)).trans hk1
      have hg28 : ∀ a, a ≠ 5 → a ≠ 7 → a ≠ 10 → ra_g s24 179 a = ra_g σ 179 a := fun a h5 h7 h10 => (ra_gk (hs24 179 (by omega))).trans (ho3 a h5 h7 h10)
      refine ra_load rfl rfl rfl rfl ?_
      exact ra_ireturn rfl rfl ⟨⟨_, (by first | omega | (unfold ra_in at *; omega)), rfl⟩, ⟨hF25, hk26, hk27, hg28, (WF_set (j := 4) hws (Or.inr rfl) hs24o ⟨by have t := hs24v; omega, by have t := hs24v; omega, fun _ => by have t := hs24v; omega⟩), (PW_k hps (ra_gk (hs24 179 (by omega))) (hs24 184 (by omega)))⟩⟩
    · refine ra_load rfl rfl rfl rfl ?_
      refine ra_getR rfl lk_8_7 (Nat.zero_le _) sh_179 rfl ?_
      refine ra_iconst rfl ?_
      refine ra_load rfl rfl rfl rfl ?_
      refine ra_iastoreJ (j := 4) rfl sh_180 rfl (by decide) rfl (by decide) ?_
      refine ra_newR (by first | omega | (unfold ra_in at *; omega)) (fun s29 hs29 hs29v hs29o => ?_)
      have hF30 := Fr_tr (lo := 179) (hi := 191) hF hs29 (by omega)
      have hk31 : s29 (183) = σ (183) := (hs29 (183) (by omega)).trans hk0
      have hk32 : s29 (187) = σ (187) := (hs29 (187) (by omega)).trans hk1
      have hg33 : ∀ a, a ≠ 5 → a ≠ 7 → a ≠ 10 → ra_g s29 179 a = ra_g σ 179 a := fun a h5 h7 h10 => (ra_gk (hs29 179 (by omega))).trans (ho3 a h5 h7 h10)
      refine ra_load rfl rfl rfl rfl ?_
      refine ra_load rfl rfl rfl rfl ?_
      refine ra_load rfl rfl rfl rfl ?_
      refine ra_cIPp (sp_224 hx0 hx1 (WF_set (j := 4) hws (Or.inr rfl) hs29o ⟨by have t := hs29v; omega, by have t := hs29v; omega, fun _ => by have t := hs29v; omega⟩) ⟨hsp.1, hsp.2.1, (hs29o _ (by omega)).trans hsp.2.2⟩) rfl (ct_224 rfl lk_8_183 (Or.inl rfl) sh_179 (Nat.le_of_ble_eq_true rfl)) (fun z35 hz35 hz35p => ?_)
      refine ra_ifeq rfl rfl hz35 (fun h36 => ?_) (fun h36 => ?_)
      · refine ra_load rfl rfl rfl rfl ?_
        refine ra_load rfl rfl rfl rfl ?_
        refine ra_load rfl rfl rfl rfl ?_
        refine ra_cIp (sp_227 hx0 hx1 (WF_set (j := 4) hws (Or.inr rfl) hs29o ⟨by have t := hs29v; omega, by have t := hs29v; omega, fun _ => by have t := hs29v; omega⟩) ⟨hsp.1, hsp.2.1, (hs29o _ (by omega)).trans hsp.2.2⟩ (mok_to (WF_set (j := 4) hws (Or.inr rfl) hs29o ⟨by have t := hs29v; omega, by have t := hs29v; omega, fun _ => by have t := hs29v; omega⟩) (hz35p (by omega)))) rfl (ct_227 rfl lk_8_388 (Or.inl rfl) sh_179 (Nat.le_of_ble_eq_true rfl)) (fun z38 hz38 => ?_)
        refine ra_store (L' := [_, _, _, _, _, _, _, _]) rfl rfl rfl (Nat.le_of_ble_eq_true rfl) rfl ?_
        refine ra_load rfl rfl rfl rfl ?_
        refine ra_iconst rfl ?_
        refine ra_iceq rfl rfl (by first | omega | (unfold ra_in at *; omega)) (by first | omega | (unfold ra_in at *; omega)) (fun h39 => ?_) (fun h39 => ?_)
        · refine ra_load rfl rfl rfl rfl ?_
          refine ra_store (L' := [_, _, _, _, _, _, _, _]) rfl rfl rfl (Nat.le_of_ble_eq_true rfl) rfl ?_
          refine ra_load rfl rfl rfl rfl ?_
          refine ra_store (L' := [_, _, _, _, _, _, _, _]) rfl rfl rfl (Nat.le_of_ble_eq_true rfl) rfl ?_
          refine ra_iinc (L' := [_, _, _, _, _, _, _, _]) rfl rfl (Nat.le_of_ble_eq_true rfl) rfl ?_
          refine ra_goto rfl rfl ?_
          exact ra_weak (by repeat' constructor) (ih v3 v6 z38 (v6 + 1) s29 (by first | omega | (unfold ra_in at *; omega)) (by first | omega | (unfold ra_in at *; omega)) (by first | omega | (unfold ra_in at *; omega)) hz38 (by first | omega | (unfold ra_in at *; omega)) (by first | omega | (unfold ra_in at *; omega)) hF30 hk31 hk32 (WF_set (j := 4) hws (Or.inr rfl) hs29o ⟨by have t := hs29v; omega, by have t := hs29v; omega, fun _ => by have t := hs29v; omega⟩) (PW_k hps (ra_gk (hs29 179 (by omega))) (hs29 184 (by omega))) (⟨hsp.1, hsp.2.1, (hs29o _ (by omega)).trans hsp.2.2⟩) hg33 (by first | omega | (unfold ra_in at *; omega)))
        · refine ra_load rfl rfl rfl rfl ?_
          refine ra_load rfl rfl rfl rfl ?_
          refine ra_iclt rfl rfl hz38 (by first | omega | (unfold ra_in at *; omega)) (fun h40 => ?_) (fun h40 => ?_)
          · refine ra_load rfl rfl rfl rfl ?_
            refine ra_store (L' := [_, _, _, _, _, _, _, _]) rfl rfl rfl (Nat.le_of_ble_eq_true rfl) rfl ?_
            refine ra_load rfl rfl rfl rfl ?_
            refine ra_store (L' := [_, _, _, _, _, _, _, _]) rfl rfl rfl (Nat.le_of_ble_eq_true rfl) rfl ?_
            refine ra_iinc (L' := [_, _, _, _, _, _, _, _]) rfl rfl (Nat.le_of_ble_eq_true rfl) rfl ?_
            refine ra_goto rfl rfl ?_
            exact ra_weak (by repeat' constructor) (ih v3 v6 z38 (v6 + 1) s29 (by first | omega | (unfold ra_in at *; omega)) (by first | omega | (unfold ra_in at *; omega)) (by first | omega | (unfold ra_in at *; omega)) hz38 (by first | omega | (unfold ra_in at *; omega)) (by first | omega | (unfold ra_in at *; omega)) hF30 hk31 hk32 (WF_set (j := 4) hws (Or.inr rfl) hs29o ⟨by have t := hs29v; omega, by have t := hs29v; omega, fun _ => by have t := hs29v; omega⟩) (PW_k hps (ra_gk (hs29 179 (by omega))) (hs29 184 (by omega))) (⟨hsp.1, hsp.2.1, (hs29o _ (by omega)).trans hsp.2.2⟩) hg33 (by first | omega | (unfold ra_in at *; omega)))
          · refine ra_goto rfl rfl ?_
            refine ra_iinc (L' := [_, _, _, _, _, _, _, _]) rfl rfl (Nat.le_of_ble_eq_true rfl) rfl ?_
            refine ra_goto rfl rfl ?_
            exact ra_weak (by repeat' constructor) (ih v3 v4 v5 (v6 + 1) s29 (by first | omega | (unfold ra_in at *; omega)) (by first | omega | (unfold ra_in at *; omega)) (by first | omega | (unfold ra_in at *; omega)) (by first | omega | (unfold ra_in at *; omega)) (by first | omega | (unfold ra_in at *; omega)) (by first | omega | (unfold ra_in at *; omega)) hF30 hk31 hk32 (WF_set (j := 4) hws (Or.inr rfl) hs29o ⟨by have t := hs29v; omega, by have t := hs29v; omega, fun _ => by have t := hs29v; omega⟩) (PW_k hps (ra_gk (hs29 179 (by omega))) (hs29 184 (by omega))) (⟨hsp.1, hsp.2.1, (hs29o _ (by omega)).trans hsp.2.2⟩) hg33 (by first | omega | (unfold ra_in at *; omega)))
      · refine ra_goto rfl rfl ?_
        refine ra_iinc (L' := [_, _, _, _, _, _, _, _]) rfl rfl (Nat.le_of_ble_eq_true rfl) rfl ?_
        refine ra_goto rfl rfl ?_
        exact ra_weak (by repeat' constructor) (ih v3 v4 v5 (v6 + 1) s29 (by first | omega | (unfold ra_in at *; omega)) (by first | omega | (unfold ra_in at *; omega)) (by first | omega | (unfold ra_in at *; omega)) (by first | omega | (unfold ra_in at *; omega)) (by first | omega | (unfold ra_in at *; omega)) (by first | omega | (unfold ra_in at *; omega)) hF30 hk31 hk32 (WF_set (j := 4) hws (Or.inr rfl) hs29o ⟨by have t := hs29v; omega, by have t := hs29v; omega, fun _ => by have t := hs29v; omega⟩) (PW_k hps (ra_gk (hs29 179 (by omega))) (hs29 184 (by omega))) (⟨hsp.1, hsp.2.1, (hs29o _ (by omega)).trans hsp.2.2⟩) hg33 (by first | omega | (unfold ra_in at *; omega)))
theorem sp_334 {n : Nat} {f : Nat → Int32} {d : Nat} {x0 : Int} {x1 : Int} {σ : ra_V} (hx0 : ra_in x0) (hx1 : ra_in x1) (hw : WF σ) (hpw : PW σ) : ra_C (g_Gs n f) g_sh 0 (d + 5) 334 [.index (179), ra_I x0, ra_I x1] σ (fun r s => rI r ∧ Fr (179) (191) σ s ∧ s (183) = σ (183) ∧ s (187) = σ (187) ∧ (∀ a, a ≠ 5 → a ≠ 7 → a ≠ 10 → ra_g s 179 a = ra_g σ 179 a) ∧ WF s ∧ PW s) := by
  refine ra_enter (nn := 5) mt_334 rfl (Nat.le_of_ble_eq_true rfl) rfl (fun h => absurd h (by decide +kernel)) ?_
  have hw0 := WF_a hw
  unfold WFa at hw0
  refine ra_load rfl rfl rfl rfl ?_
  refine ra_iconst rfl ?_
  refine ra_putI rfl lk_8_51 (Nat.zero_le _) sh_179 rfl rfl ?_
  refine ra_newU (by first | omega | (unfold ra_in at *; omega)) (fun s1 hs1 hp2 hp2o => ?_)
  have hp2_99 := hp2o 99 (by decide)
  have hF3 := Fr_tr (lo := 179) (hi := 191) Fr_rf hs1 (by omega)
  have hk4 : s1 (180) = σ (180) := (hs1 (180) (by omega))
  have hk5 : s1 (183) = σ (183) := (hs1 (183) (by omega))
  have hk6 : s1 (184) = σ (184) := (hs1 (184) (by omega))
  have hk7 : s1 (187) = σ (187) := (hs1 (187) (by omega))
  have hg8 : ∀ a, a ≠ 5 → a ≠ 7 → a ≠ 10 → ra_g s1 179 a = ra_g σ 179 a := fun a h5 h7 h10 => ((fun a h7 h10 => hp2o a h7) a h7 h10).trans ((fun _ _ _ _ => rfl) a h5 h7 h10)
  have ho9 : ∀ a, a ≠ 7 → a ≠ 10 → ra_g s1 179 a = ra_g σ 179 a := fun a h7 h10 => ((fun a h7 h10 => hp2o a h7) a h7 h10).trans ((fun _ _ _ => rfl) a h7 h10)
  refine ra_load rfl rfl rfl rfl ?_
  refine ra_load rfl rfl rfl rfl ?_
  refine ra_iconst rfl ?_
  refine ra_cQP (sp_268 hx0 (by first | omega | (unfold ra_in at *; omega))) rfl (ct_268 rfl lk_8_318 (Or.inl rfl) sh_179 (Nat.le_of_ble_eq_true rfl)) (fun z11 s10 hz11 hz11p hs10 => ?_)
  rw [wq_k hk4] at hz11p
  obtain ⟨hf12, he13⟩ := hs10
  have hF14 := Fr_tr (lo := 179) (hi := 191) hF3 hf12 (by omega)
  have hk15 : s10 (180) = σ (180) := (hf12 (180) (by omega)).trans hk4
  have hk16 : s10 (183) = σ (183) := (hf12 (183) (by omega)).trans hk5
  have hk17 : s10 (184) = σ (184) := (hf12 (184) (by omega)).trans hk6
  have hk18 : s10 (187) = σ (187) := (hf12 (187) (by omega)).trans hk7
  have hg19 : ∀ a, a ≠ 5 → a ≠ 7 → a ≠ 10 → ra_g s10 179 a = ra_g σ 179 a := fun a h5 h7 h10 => ((fun a h7 h10 => he13 a h7) a h7 h10).trans (hg8 a h5 h7 h10)
  have ho20 : ∀ a, a ≠ 7 → a ≠ 10 → ra_g s10 179 a = ra_g σ 179 a := fun a h7 h10 => ((fun a h7 h10 => he13 a h7) a h7 h10).trans (ho9 a h7 h10)
  refine ra_ifeq rfl rfl (ra_in01 hz11) (fun h21 => ?_) (fun h21 => ?_)
  · have hp := hz11p (by omega)
    have hq := WF_p hw hp.1 hp.2.1 hp.2.2
    refine ra_load rfl rfl rfl rfl ?_
    refine ra_getR rfl lk_8_7 (Nat.zero_le _) sh_179 rfl ?_
    refine ra_iconst rfl ?_
    refine ra_ialoadJ (j := 4) rfl sh_180 rfl (by decide) rfl (by decide) ?_
    rw [ra_gk hk15]
    have hr22 : ra_in (ra_g σ (180) 4) := (ra_in_g _ _ _)
    refine ra_store (L' := [_, _, _, _, _, _, _, _]) rfl rfl rfl (Nat.le_of_ble_eq_true rfl) rfl ?_
    refine ra_iconst rfl ?_
    refine ra_store (L' := [_, _, _, _, _, _, _, _]) rfl rfl rfl (Nat.le_of_ble_eq_true rfl) rfl ?_
    refine ra_iconst rfl ?_
    refine ra_store (L' := [_, _, _, _, _, _, _, _]) rfl rfl rfl (Nat.le_of_ble_eq_true rfl) rfl ?_
    refine ra_iconst rfl ?_
    refine ra_store (L' := [_, _, _, _, _, _, _, _]) rfl rfl rfl (Nat.le_of_ble_eq_true rfl) rfl ?_
    exact ra_weak (by repeat' constructor) (lp_334_32 hx0 hx1 hw hpw _ (ra_g σ (180) 4) (-1) (0) (1) s10 (by first | omega | (unfold ra_in at *; omega)) (by first | omega | (unfold ra_in at *; omega)) (by first | omega | (unfold ra_in at *; omega)) (by first | omega | (unfold ra_in at *; omega)) (by first | omega | (unfold ra_in at *; omega)) (by first | omega | (unfold ra_in at *; omega)) hF14 hk16 hk18 (WF_k hk15 hw) (PW_k hpw (ho20 5 (by decide) (by decide)) hk17) (⟨hp.1, hp.2.1, (wq_k hk15).trans hp.2.2⟩) hg19 (Nat.lt_succ_self _))
  · refine ra_iconst rfl ?_
    exact ra_ireturn rfl rfl ⟨⟨_, (by first | omega | (unfold ra_in at *; omega)), rfl⟩, ⟨hF14, hk16, hk18, hg19, (WF_k hk15 hw), (PW_k hpw (ho20 5 (by decide) (by decide)) hk17)⟩⟩
end RB
end
section
/-! the reference: what its methods do (printed by wip/gen/ref.py) -/
section RB
theorem sp_254 {n : Nat} {f : Nat → Int32} {d : Nat} {x0 : Int} {x1 : Int} {σ : ra_V} (hx0 : ra_in x0) (hx1 : ra_in x1) (hpi : 0 ≤ ra_g σ 179 18 ∧ ra_g σ 179 18 ≤ ra_g σ 179 17 ∧ ra_g σ 179 17 ≤ ra_g σ 179 12 ∧ ra_g σ 179 12 ≤ 500) : ra_C (g_Gs n f) g_sh 0 (d + 2) 254 [.index (179), ra_I x0, ra_I x1] σ (fun r s => (∃ z : Int, (z = 0 ∨ z = 1) ∧ (z = 1 → (x0 ≤ ra_g σ 179 19 ∧ ra_g σ 179 19 ≤ x1)) ∧ r = .inl (some (ra_I z))) ∧ Fr (179) (180) σ s ∧ (∀ a, a ≠ 15 → a ≠ 16 → ra_g s 179 a = ra_g σ 179 a)) := by
  refine ra_enter (nn := 0) mt_254 rfl (Nat.le_of_ble_eq_true rfl) rfl (fun h => absurd h (by decide +kernel)) ?_
  refine ra_load rfl rfl rfl rfl ?_
  refine ra_getI rfl lk_8_204 (Nat.zero_le _) sh_179 rfl ?_
  have hr1 : ra_in (ra_g σ (179) 20) := (ra_in_g _ _ _)
  refine ra_iconst rfl ?_
  refine ra_icne rfl rfl hr1 (by first | omega | (unfold ra_in at *; omega)) (fun h2 => ?_) (fun h2 => ?_)
  · refine ra_load rfl rfl rfl rfl ?_
    refine ra_iconst rfl ?_
    refine ra_cQP (sp_252 (by first | omega | (unfold ra_in at *; omega))) rfl (ct_252 rfl lk_8_233 (Or.inl rfl) sh_179 (Nat.le_of_ble_eq_true rfl)) (fun z4 s3 hz4 hz4p hs3 => ?_)
    obtain ⟨hf5, he6⟩ := hs3
    have hF7 := Fr_tr (lo := 179) (hi := 180) Fr_rf hf5 (by omega)
    exact ra_ireturn rfl (ra_okB hz4) ⟨⟨_, hz4, (fun q => by omega), rfl⟩, ⟨hF7, he6⟩⟩
  · refine ra_load rfl rfl rfl rfl ?_
    refine ra_cTp (sp_251 (by first | assumption | rfl | omega)) rfl (ct_251 rfl lk_8_221 (Or.inl rfl) sh_179 (Nat.le_of_ble_eq_true rfl)) ?_
    have hr9 : ra_in (ra_g σ 179 17 - ra_g σ 179 18) := (by unfold ra_in; omega)
    refine ra_iconst rfl ?_
    refine ra_icle rfl rfl hr9 (by first | omega | (unfold ra_in at *; omega)) (fun h10 => ?_) (fun h10 => ?_)
    · refine ra_load rfl rfl rfl rfl ?_
      refine ra_getI rfl lk_8_201 (Nat.zero_le _) sh_179 rfl ?_
      have hr11 : ra_in (ra_g σ (179) 19) := (ra_in_g _ _ _)
      refine ra_i2l rfl hr11 ?_
      refine ra_load rfl rfl rfl rfl ?_
      refine ra_i2l rfl hx0 ?_
      refine ra_load rfl rfl rfl rfl ?_
      refine ra_i2l rfl hx1 ?_
      refine ra_cTp (sp_193 hr11 hx0 hx1) rfl (ct_193 rfl lk_8_63 (Or.inl rfl) (Nat.le_of_ble_eq_true rfl)) ?_
      refine ra_ifneB rfl rfl (fun h13 => ?_) (fun h13 => ?_)
      · refine ra_iconst rfl ?_
        refine ra_goto rfl rfl ?_
        exact ra_ireturn rfl (ra_okB (Or.inr rfl)) ⟨⟨_, (Or.inr rfl), (fun q => by omega), rfl⟩, ⟨Fr_rf, (fun _ _ _ => rfl)⟩⟩
      · refine ra_load rfl rfl rfl rfl ?_
        refine ra_iconst rfl ?_
        refine ra_cQP (sp_252 (by first | omega | (unfold ra_in at *; omega))) rfl (ct_252 rfl lk_8_233 (Or.inl rfl) sh_179 (Nat.le_of_ble_eq_true rfl)) (fun z15 s14 hz15 hz15p hs14 => ?_)
        obtain ⟨hf16, he17⟩ := hs14
        have hF18 := Fr_tr (lo := 179) (hi := 180) Fr_rf hf16 (by omega)
        refine ra_ifeq rfl rfl (ra_in01 hz15) (fun h19 => ?_) (fun h19 => ?_)
        · refine ra_iconst rfl ?_
          exact ra_ireturn rfl (ra_okB (Or.inl rfl)) ⟨⟨_, (Or.inl rfl), (fun q => by omega), rfl⟩, ⟨hF18, he17⟩⟩
        · refine ra_iconst rfl ?_
          refine ra_goto rfl rfl ?_
          exact ra_ireturn rfl (ra_okB (Or.inr rfl)) ⟨⟨_, (Or.inr rfl), (fun q => by omega), rfl⟩, ⟨hF18, he17⟩⟩
    · refine ra_load rfl rfl rfl rfl ?_
      refine ra_iconst rfl ?_
      refine ra_cQP (sp_252 (by first | omega | (unfold ra_in at *; omega))) rfl (ct_252 rfl lk_8_233 (Or.inl rfl) sh_179 (Nat.le_of_ble_eq_true rfl)) (fun z21 s20 hz21 hz21p hs20 => ?_)
      obtain ⟨hf22, he23⟩ := hs20
      have hF24 := Fr_tr (lo := 179) (hi := 180) Fr_rf hf22 (by omega)
      exact ra_ireturn rfl (ra_okB hz21) ⟨⟨_, hz21, (fun q => by omega), rfl⟩, ⟨hF24, he23⟩⟩
end RB
end
section
/-! the reference: what its methods do (printed by wip/gen/ref.py) -/
section RB
theorem lp_250_146 {n : Nat} {f : Nat → Int32} {d : Nat}  {σ : ra_V} (hpn : 0 ≤ ra_g σ 179 17 ∧ ra_g σ 179 17 ≤ ra_g σ 179 12 ∧ ra_g σ 179 12 ≤ 500) : ∀ (nn : Nat) (s : ra_V) (hF : Fr (179) (180) σ s) (hov : ∀ a, a ≠ 17 → a ≠ 18 → a ≠ 19 → a ≠ 20 → ra_g s 179 a = ra_g σ 179 a) (hnv : 0 ≤ ra_g s 179 18 ∧ ra_g s 179 18 ≤ ra_g s 179 17 ∧ ra_g s 179 17 ≤ ra_g s 179 12 ∧ ra_g s 179 12 ≤ 500 ∧ 0 ≤ ra_g s 179 19 ∧ ra_g s 179 19 ≤ 999 ∧ ra_g σ 179 17 ≤ ra_g s 179 17 ∧ ra_g s 179 20 ≠ 3 ∧ (ra_g s 179 17 - ra_g s 179 18 ≤ 0 → ra_g s 179 19 = 0) ∧ (ra_g s 179 17 - ra_g s 179 18 ≤ 1 → ra_g s 179 19 ≤ 9) ∧ (ra_g s 179 17 - ra_g s 179 18 ≤ 2 → ra_g s 179 19 ≤ 99)) (hm : ((501 - ra_g s 179 17 : Int)).toNat < nn), ra_P (g_Gs n f) g_sh 0 (d + 1) g_m_X8_advanceToken 146 [some (.index (179)), none] [] s (fun r s => rV r ∧ Fr (179) (180) σ s ∧ (∀ a, a ≠ 17 → a ≠ 18 → a ≠ 19 → a ≠ 20 → ra_g s 179 a = ra_g σ 179 a) ∧ (0 ≤ ra_g s 179 18 ∧ ra_g s 179 18 ≤ ra_g s 179 17 ∧ ra_g s 179 17 ≤ ra_g s 179 12 ∧ ra_g s 179 12 ≤ 500 ∧ 0 ≤ ra_g s 179 19 ∧ ra_g s 179 19 ≤ 999) ∧ ra_g σ 179 17 ≤ ra_g s 179 17 ∧ (ra_g s 179 20 = 3 → ra_g σ 179 17 < ra_g s 179 17)) := by
  intro nn
  induction nn with
  | zero => intro s hF hov hnv hm; exact absurd hm (Nat.not_lt_zero _)
  | succ nn ih =>
    intro s hF hov hnv hm
    refine ra_load rfl rfl rfl rfl ?_
    refine ra_load rfl rfl rfl rfl ?_
    refine ra_getI rfl lk_8_192 (Nat.zero_le _) sh_179 rfl ?_
    have hr46 : ra_in (ra_g s (179) 17) := (ra_in_g _ _ _)
    refine ra_cIPp (sp_249 hr46 (by first | assumption | rfl | omega) (by first | assumption | rfl | omega)) rfl (ct_249 rfl lk_8_195 (Or.inl rfl) sh_179 (Nat.le_of_ble_eq_true rfl)) (fun z48 hz48 hz48p => ?_)
    refine ra_i2l rfl hz48 ?_
    refine ra_ldc2 (z := 48) rfl lk_8_211 (by decide) ?_
    refine ra_ldc2 (z := 57) rfl lk_8_213 (by decide) ?_
    refine ra_cTp (sp_193 hz48 (by first | omega | (unfold ra_in at *; omega)) (by first | omega | (unfold ra_in at *; omega))) rfl (ct_193 rfl lk_8_63 (Or.inl rfl) (Nat.le_of_ble_eq_true rfl)) ?_
    refine ra_ifeqB rfl rfl (fun h50 => ?_) (fun h50 => ?_)
    · exact ra_return rfl rfl ⟨rfl, ⟨hF, (fun a h17 h18 h19 h20 => (hov a h17 h18 h19 h20)), by omega, by omega⟩⟩
    · refine ra_load rfl rfl rfl rfl ?_
      refine ra_getI rfl lk_8_192 (Nat.zero_le _) sh_179 rfl ?_
      have hr51 : ra_in (ra_g s (179) 17) := (ra_in_g _ _ _)
      refine ra_load rfl rfl rfl rfl ?_
      refine ra_getI rfl lk_8_198 (Nat.zero_le _) sh_179 rfl ?_
      have hr52 : ra_in (ra_g s (179) 18) := (ra_in_g _ _ _)
      refine ra_isub rfl ?_
      refine ra_iconst rfl ?_
      refine ra_icge rfl rfl (by first | omega | (unfold ra_in at *; omega)) (by first | omega | (unfold ra_in at *; omega)) (fun h53 => ?_) (fun h53 => ?_)
      · refine ra_load rfl rfl rfl rfl ?_
        refine ra_dup rfl rfl ?_
        refine ra_getI rfl lk_8_192 (Nat.zero_le _) sh_179 rfl ?_
        have hr54 : ra_in (ra_g s (179) 17) := (ra_in_g _ _ _)
        refine ra_iconst rfl ?_
        refine ra_iadd rfl ?_
        refine ra_putI rfl lk_8_192 (Nat.zero_le _) sh_179 rfl rfl ?_
        refine ra_newU (by first | omega | (unfold ra_in at *; omega)) (fun s55 hs55 hp56 hp56o => ?_)
        have hp56_12 := hp56o 12 (by decide)
        have hp56_18 := hp56o 18 (by decide)
        have hp56_19 := hp56o 19 (by decide)
        have hp56_20 := hp56o 20 (by decide)
        have hF57 := Fr_tr (lo := 179) (hi := 180) hF hs55 (by omega)
        refine ra_goto rfl rfl ?_
        exact ra_weak (by repeat' constructor) (ih s55 hF57 (fun a h17 h18 h19 h20 => ((hp56o a (by assumption)).trans (hov a h17 h18 h19 h20))) (by omega) (by first | omega | (unfold ra_in at *; omega)))
      · refine ra_load rfl rfl rfl rfl ?_
        refine ra_bipush rfl (by decide) ?_
        refine ra_load rfl rfl rfl rfl ?_
        refine ra_getI rfl lk_8_201 (Nat.zero_le _) sh_179 rfl ?_
        have hr58 : ra_in (ra_g s (179) 19) := (ra_in_g _ _ _)
        refine ra_imul rfl ?_
        refine ra_load rfl rfl rfl rfl ?_
        refine ra_load rfl rfl rfl rfl ?_
        refine ra_getI rfl lk_8_192 (Nat.zero_le _) sh_179 rfl ?_
        have hr59 : ra_in (ra_g s (179) 17) := (ra_in_g _ _ _)
        refine ra_cIPp (sp_249 hr59 (by first | assumption | rfl | omega) (by first | assumption | rfl | omega)) rfl (ct_249 rfl lk_8_195 (Or.inl rfl) sh_179 (Nat.le_of_ble_eq_true rfl)) (fun z61 hz61 hz61p => ?_)
        refine ra_iadd rfl ?_
        refine ra_bipush rfl (by decide) ?_
        refine ra_isub rfl ?_
        refine ra_putI rfl lk_8_201 (Nat.zero_le _) sh_179 rfl rfl ?_
        refine ra_newU (by first | omega | (unfold ra_in at *; omega)) (fun s62 hs62 hp63 hp63o => ?_)
        have hp63_12 := hp63o 12 (by decide)
        have hp63_17 := hp63o 17 (by decide)
        have hp63_18 := hp63o 18 (by decide)
        have hp63_20 := hp63o 20 (by decide)
        have hF64 := Fr_tr (lo := 179) (hi := 180) hF hs62 (by omega)
        refine ra_load rfl rfl rfl rfl ?_
        refine ra_dup rfl rfl ?_
        refine ra_getI rfl lk_8_192 (Nat.zero_le _) sh_179 rfl ?_
        have hr65 : ra_in (ra_g s62 (179) 17) := (ra_in_g _ _ _)
        refine ra_iconst rfl ?_
        refine ra_iadd rfl ?_
        refine ra_putI rfl lk_8_192 (Nat.zero_le _) sh_179 rfl rfl ?_
        refine ra_newU (by first | omega | (unfold ra_in at *; omega)) (fun s66 hs66 hp67 hp67o => ?_)
        have hp67_12 := hp67o 12 (by decide)
        have hp67_18 := hp67o 18 (by decide)
        have hp67_19 := hp67o 19 (by decide)
        have hp67_20 := hp67o 20 (by decide)
        have hF68 := Fr_tr (lo := 179) (hi := 180) hF64 hs66 (by omega)
        refine ra_goto rfl rfl ?_
        exact ra_weak (by repeat' constructor) (ih s66 hF68 (fun a h17 h18 h19 h20 => ((hp67o a (by assumption)).trans ((hp63o a (by assumption)).trans (hov a h17 h18 h19 h20)))) (by omega) (by first | omega | (unfold ra_in at *; omega)))
theorem lp_250_93 {n : Nat} {f : Nat → Int32} {d : Nat}  {σ : ra_V} (hpn : 0 ≤ ra_g σ 179 17 ∧ ra_g σ 179 17 ≤ ra_g σ 179 12 ∧ ra_g σ 179 12 ≤ 500) : ∀ (nn : Nat) (s : ra_V) (hF : Fr (179) (180) σ s) (hov : ∀ a, a ≠ 17 → a ≠ 18 → a ≠ 19 → a ≠ 20 → ra_g s 179 a = ra_g σ 179 a) (hnv : 0 ≤ ra_g s 179 18 ∧ ra_g s 179 18 ≤ ra_g s 179 17 ∧ ra_g s 179 17 ≤ ra_g s 179 12 ∧ ra_g s 179 12 ≤ 500 ∧ 0 ≤ ra_g s 179 19 ∧ ra_g s 179 19 ≤ 999 ∧ ra_g σ 179 17 ≤ ra_g s 179 17 ∧ ra_g s 179 20 ≠ 3) (hm : ((501 - ra_g s 179 17 : Int)).toNat < nn), ra_P (g_Gs n f) g_sh 0 (d + 1) g_m_X8_advanceToken 93 [some (.index (179)), none] [] s (fun r s => rV r ∧ Fr (179) (180) σ s ∧ (∀ a, a ≠ 17 → a ≠ 18 → a ≠ 19 → a ≠ 20 → ra_g s 179 a = ra_g σ 179 a) ∧ (0 ≤ ra_g s 179 18 ∧ ra_g s 179 18 ≤ ra_g s 179 17 ∧ ra_g s 179 17 ≤ ra_g s 179 12 ∧ ra_g s 179 12 ≤ 500 ∧ 0 ≤ ra_g s 179 19 ∧ ra_g s 179 19 ≤ 999) ∧ ra_g σ 179 17 ≤ ra_g s 179 17 ∧ (ra_g s 179 20 = 3 → ra_g σ 179 17 < ra_g s 179 17)) := by
  intro nn
  induction nn with
  | zero => intro s hF hov hnv hm; exact absurd hm (Nat.not_lt_zero _)
  | succ nn ih =>
    intro s hF hov hnv hm
    refine ra_load rfl rfl rfl rfl ?_
    refine ra_load rfl rfl rfl rfl ?_
    refine ra_getI rfl lk_8_192 (Nat.zero_le _) sh_179 rfl ?_
    have hr72 : ra_in (ra_g s (179) 17) := (ra_in_g _ _ _)
    refine ra_cIPp (sp_249 hr72 (by first | assumption | rfl | omega) (by first | assumption | rfl | omega)) rfl (ct_249 rfl lk_8_195 (Or.inl rfl) sh_179 (Nat.le_of_ble_eq_true rfl)) (fun z74 hz74 hz74p => ?_)
    refine ra_i2l rfl hz74 ?_
    refine ra_ldc2 (z := 97) rfl lk_8_207 (by decide) ?_
    refine ra_ldc2 (z := 122) rfl lk_8_209 (by decide) ?_
    refine ra_cTp (sp_193 hz74 (by first | omega | (unfold ra_in at *; omega)) (by first | omega | (unfold ra_in at *; omega))) rfl (ct_193 rfl lk_8_63 (Or.inl rfl) (Nat.le_of_ble_eq_true rfl)) ?_
    refine ra_ifeqB rfl rfl (fun h76 => ?_) (fun h76 => ?_)
    · exact ra_return rfl rfl ⟨rfl, ⟨hF, (fun a h17 h18 h19 h20 => (hov a h17 h18 h19 h20)), by omega, by omega⟩⟩
    · refine ra_load rfl rfl rfl rfl ?_
      refine ra_dup rfl rfl ?_
      refine ra_getI rfl lk_8_192 (Nat.zero_le _) sh_179 rfl ?_
      have hr77 : ra_in (ra_g s (179) 17) := (ra_in_g _ _ _)
      refine ra_iconst rfl ?_
      refine ra_iadd rfl ?_
      refine ra_putI rfl lk_8_192 (Nat.zero_le _) sh_179 rfl rfl ?_
      refine ra_newU (by first | omega | (unfold ra_in at *; omega)) (fun s78 hs78 hp79 hp79o => ?_)
      have hp79_12 := hp79o 12 (by decide)
      have hp79_18 := hp79o 18 (by decide)
      have hp79_19 := hp79o 19 (by decide)
      have hp79_20 := hp79o 20 (by decide)
      have hF80 := Fr_tr (lo := 179) (hi := 180) hF hs78 (by omega)
      refine ra_goto rfl rfl ?_
      exact ra_weak (by repeat' constructor) (ih s78 hF80 (fun a h17 h18 h19 h20 => ((hp79o a (by assumption)).trans (hov a h17 h18 h19 h20))) (by omega) (by first | omega | (unfold ra_in at *; omega)))
theorem lp_250_0 {n : Nat} {f : Nat → Int32} {d : Nat}  {σ : ra_V} (hpn : 0 ≤ ra_g σ 179 17 ∧ ra_g σ 179 17 ≤ ra_g σ 179 12 ∧ ra_g σ 179 12 ≤ 500) : ∀ (nn : Nat) (s : ra_V) (hF : Fr (179) (180) σ s) (hov : ∀ a, a ≠ 17 → a ≠ 18 → a ≠ 19 → a ≠ 20 → ra_g s 179 a = ra_g σ 179 a) (hnv : 0 ≤ ra_g s 179 17 ∧ ra_g s 179 17 ≤ ra_g s 179 12 ∧ ra_g s 179 12 ≤ 500 ∧ ra_g σ 179 17 ≤ ra_g s 179 17) (hm : ((501 - ra_g s 179 17 : Int)).toNat < nn), ra_P (g_Gs n f) g_sh 0 (d + 1) g_m_X8_advanceToken 0 [some (.index (179)), none] [] s (fun r s => rV r ∧ Fr (179) (180) σ s ∧ (∀ a, a ≠ 17 → a ≠ 18 → a ≠ 19 → a ≠ 20 → ra_g s 179 a = ra_g σ 179 a) ∧ (0 ≤ ra_g s 179 18 ∧ ra_g s 179 18 ≤ ra_g s 179 17 ∧ ra_g s 179 17 ≤ ra_g s 179 12 ∧ ra_g s 179 12 ≤ 500 ∧ 0 ≤ ra_g s 179 19 ∧ ra_g s 179 19 ≤ 999) ∧ ra_g σ 179 17 ≤ ra_g s 179 17 ∧ (ra_g s 179 20 = 3 → ra_g σ 179 17 < ra_g s 179 17)) := by
  intro nn
  induction nn with
  | zero => intro s hF hov hnv hm; exact absurd hm (Nat.not_lt_zero _)
  | succ nn ih =>
    intro s hF hov hnv hm
    refine ra_load rfl rfl rfl rfl ?_
    refine ra_load rfl rfl rfl rfl ?_
    refine ra_getI rfl lk_8_192 (Nat.zero_le _) sh_179 rfl ?_
    have hr1 : ra_in (ra_g s (179) 17) := (ra_in_g _ _ _)
    refine ra_cIPp (sp_249 hr1 (by first | assumption | rfl | omega) (by first | assumption | rfl | omega)) rfl (ct_249 rfl lk_8_195 (Or.inl rfl) sh_179 (Nat.le_of_ble_eq_true rfl)) (fun z3 hz3 hz3p => ?_)
    refine ra_bipush rfl (by decide) ?_
    refine ra_iceq rfl rfl hz3 (by first | omega | (unfold ra_in at *; omega)) (fun h4 => ?_) (fun h4 => ?_)
    · refine ra_load rfl rfl rfl rfl ?_
      refine ra_dup rfl rfl ?_
      refine ra_getI rfl lk_8_192 (Nat.zero_le _) sh_179 rfl ?_
      have hr5 : ra_in (ra_g s (179) 17) := (ra_in_g _ _ _)
      refine ra_iconst rfl ?_
      refine ra_iadd rfl ?_
      refine ra_putI rfl lk_8_192 (Nat.zero_le _) sh_179 rfl rfl ?_
      refine ra_newU (by first | omega | (unfold ra_in at *; omega)) (fun s6 hs6 hp7 hp7o => ?_)
      have hp7_12 := hp7o 12 (by decide)
      have hp7_18 := hp7o 18 (by decide)
      have hp7_19 := hp7o 19 (by decide)
      have hp7_20 := hp7o 20 (by decide)
      have hF8 := Fr_tr (lo := 179) (hi := 180) hF hs6 (by omega)
      refine ra_goto rfl rfl ?_
      exact ra_weak (by repeat' constructor) (ih s6 hF8 (fun a h17 h18 h19 h20 => ((hp7o a (by assumption)).trans (hov a h17 h18 h19 h20))) (by omega) (by first | omega | (unfold ra_in at *; omega)))
    · refine ra_load rfl rfl rfl rfl ?_
      refine ra_load rfl rfl rfl rfl ?_
      refine ra_getI rfl lk_8_192 (Nat.zero_le _) sh_179 rfl ?_
      have hr9 : ra_in (ra_g s (179) 17) := (ra_in_g _ _ _)
      refine ra_cIPp (sp_249 hr9 (by first | assumption | rfl | omega) (by first | assumption | rfl | omega)) rfl (ct_249 rfl lk_8_195 (Or.inl rfl) sh_179 (Nat.le_of_ble_eq_true rfl)) (fun z11 hz11 hz11p => ?_)
      refine ra_bipush rfl (by decide) ?_
      refine ra_icne rfl rfl hz11 (by first | omega | (unfold ra_in at *; omega)) (fun h12 => ?_) (fun h12 => ?_)
      · refine ra_load rfl rfl rfl rfl ?_
        refine ra_load rfl rfl rfl rfl ?_
        refine ra_getI rfl lk_8_192 (Nat.zero_le _) sh_179 rfl ?_
        have hr13 : ra_in (ra_g s (179) 17) := (ra_in_g _ _ _)
        refine ra_putI rfl lk_8_198 (Nat.zero_le _) sh_179 rfl rfl ?_
        refine ra_newU hr13 (fun s14 hs14 hp15 hp15o => ?_)
        have hp15_12 := hp15o 12 (by decide)
        have hp15_17 := hp15o 17 (by decide)
        have hp15_19 := hp15o 19 (by decide)
        have hp15_20 := hp15o 20 (by decide)
        have hF16 := Fr_tr (lo := 179) (hi := 180) hF hs14 (by omega)
        refine ra_load rfl rfl rfl rfl ?_
        refine ra_load rfl rfl rfl rfl ?_
        refine ra_getI rfl lk_8_192 (Nat.zero_le _) sh_179 rfl ?_
        have hr17 : ra_in (ra_g s14 (179) 17) := (ra_in_g _ _ _)
        refine ra_cIPp (sp_249 hr17 (by first | assumption | rfl | omega) (by first | assumption | rfl | omega)) rfl (ct_249 rfl lk_8_195 (Or.inl rfl) sh_179 (Nat.le_of_ble_eq_true rfl)) (fun z19 hz19 hz19p => ?_)
        refine ra_store (L' := [_, _]) rfl rfl rfl (Nat.le_of_ble_eq_true rfl) rfl ?_
        refine ra_load rfl rfl rfl rfl ?_
        refine ra_iconst rfl ?_
        refine ra_putI rfl lk_8_201 (Nat.zero_le _) sh_179 rfl rfl ?_
        refine ra_newU (by first | omega | (unfold ra_in at *; omega)) (fun s20 hs20 hp21 hp21o => ?_)
        have hp21_12 := hp21o 12 (by decide)
        have hp21_17 := hp21o 17 (by decide)
        have hp21_18 := hp21o 18 (by decide)
        have hp21_20 := hp21o 20 (by decide)
        have hF22 := Fr_tr (lo := 179) (hi := 180) hF16 hs20 (by omega)
        refine ra_load rfl rfl rfl rfl ?_
        refine ra_iconst rfl ?_
        refine ra_icne rfl rfl hz19 (by first | omega | (unfold ra_in at *; omega)) (fun h23 => ?_) (fun h23 => ?_)
        · refine ra_load rfl rfl rfl rfl ?_
          refine ra_i2l rfl hz19 ?_
          refine ra_ldc2 (z := 97) rfl lk_8_207 (by decide) ?_
          refine ra_ldc2 (z := 122) rfl lk_8_209 (by decide) ?_
          refine ra_cTp (sp_193 hz19 (by first | omega | (unfold ra_in at *; omega)) (by first | omega | (unfold ra_in at *; omega))) rfl (ct_193 rfl lk_8_63 (Or.inl rfl) (Nat.le_of_ble_eq_true rfl)) ?_
          refine ra_ifeqB rfl rfl (fun h25 => ?_) (fun h25 => ?_)
          · refine ra_load rfl rfl rfl rfl ?_
            refine ra_i2l rfl hz19 ?_
            refine ra_ldc2 (z := 48) rfl lk_8_211 (by decide) ?_
            refine ra_ldc2 (z := 57) rfl lk_8_213 (by decide) ?_
            refine ra_cTp (sp_193 hz19 (by first | omega | (unfold ra_in at *; omega)) (by first | omega | (unfold ra_in at *; omega))) rfl (ct_193 rfl lk_8_63 (Or.inl rfl) (Nat.le_of_ble_eq_true rfl)) ?_
            refine ra_ifeqB rfl rfl (fun h27 => ?_) (fun h27 => ?_)
            · refine ra_load rfl rfl rfl rfl ?_
              refine ra_load rfl rfl rfl rfl ?_
              refine ra_bipush rfl (by decide) ?_
              refine ra_icne rfl rfl hz19 (by first | omega | (unfold ra_in at *; omega)) (fun h28 => ?_) (fun h28 => ?_)
              · refine ra_iconst rfl ?_
                refine ra_putI rfl lk_8_204 (Nat.zero_le _) sh_179 rfl rfl ?_
                refine ra_newU (by first | omega | (unfold ra_in at *; omega)) (fun s29 hs29 hp30 hp30o => ?_)
                have hp30_12 := hp30o 12 (by decide)
                have hp30_17 := hp30o 17 (by decide)
                have hp30_18 := hp30o 18 (by decide)
                have hp30_19 := hp30o 19 (by decide)
                have hF31 := Fr_tr (lo := 179) (hi := 180) hF22 hs29 (by omega)
                refine ra_load rfl rfl rfl rfl ?_
                refine ra_dup rfl rfl ?_
                refine ra_getI rfl lk_8_192 (Nat.zero_le _) sh_179 rfl ?_
                have hr32 : ra_in (ra_g s29 (179) 17) := (ra_in_g _ _ _)
                refine ra_iconst rfl ?_
                refine ra_iadd rfl ?_
                refine ra_putI rfl lk_8_192 (Nat.zero_le _) sh_179 rfl rfl ?_
                refine ra_newU (by first | omega | (unfold ra_in at *; omega)) (fun s33 hs33 hp34 hp34o => ?_)
                have hp34_12 := hp34o 12 (by decide)
                have hp34_18 := hp34o 18 (by decide)
                have hp34_19 := hp34o 19 (by decide)
                have hp34_20 := hp34o 20 (by decide)
                have hF35 := Fr_tr (lo := 179) (hi := 180) hF31 hs33 (by omega)
                exact ra_return rfl rfl ⟨rfl, ⟨hF35, (fun a h17 h18 h19 h20 => ((hp34o a (by assumption)).trans ((hp30o a (by assumption)).trans ((hp21o a (by assumption)).trans ((hp15o a (by assumption)).trans (hov a h17 h18 h19 h20)))))), by omega, by omega⟩⟩
              · refine ra_iconst rfl ?_
                refine ra_goto rfl rfl ?_
                refine ra_putI rfl lk_8_204 (Nat.zero_le _) sh_179 rfl rfl ?_
                refine ra_newU (by first | omega | (unfold ra_in at *; omega)) (fun s36 hs36 hp37 hp37o => ?_)
                have hp37_12 := hp37o 12 (by decide)
                have hp37_17 := hp37o 17 (by decide)
                have hp37_18 := hp37o 18 (by decide)
                have hp37_19 := hp37o 19 (by decide)
                have hF38 := Fr_tr (lo := 179) (hi := 180) hF22 hs36 (by omega)
                refine ra_load rfl rfl rfl rfl ?_
                refine ra_dup rfl rfl ?_
                refine ra_getI rfl lk_8_192 (Nat.zero_le _) sh_179 rfl ?_
                have hr39 : ra_in (ra_g s36 (179) 17) := (ra_in_g _ _ _)
                refine ra_iconst rfl ?_
                refine ra_iadd rfl ?_
                refine ra_putI rfl lk_8_192 (Nat.zero_le _) sh_179 rfl rfl ?_
                refine ra_newU (by first | omega | (unfold ra_in at *; omega)) (fun s40 hs40 hp41 hp41o => ?_)
                have hp41_12 := hp41o 12 (by decide)
                have hp41_18 := hp41o 18 (by decide)
                have hp41_19 := hp41o 19 (by decide)
                have hp41_20 := hp41o 20 (by decide)
                have hF42 := Fr_tr (lo := 179) (hi := 180) hF38 hs40 (by omega)
                exact ra_return rfl rfl ⟨rfl, ⟨hF42, (fun a h17 h18 h19 h20 => ((hp41o a (by assumption)).trans ((hp37o a (by assumption)).trans ((hp21o a (by assumption)).trans ((hp15o a (by assumption)).trans (hov a h17 h18 h19 h20)))))), by omega, by omega⟩⟩
            · refine ra_load rfl rfl rfl rfl ?_
              refine ra_iconst rfl ?_
              refine ra_putI rfl lk_8_204 (Nat.zero_le _) sh_179 rfl rfl ?_
              refine ra_newU (by first | omega | (unfold ra_in at *; omega)) (fun s43 hs43 hp44 hp44o => ?_)
              have hp44_12 := hp44o 12 (by decide)
              have hp44_17 := hp44o 17 (by decide)
              have hp44_18 := hp44o 18 (by decide)
              have hp44_19 := hp44o 19 (by decide)
              have hF45 := Fr_tr (lo := 179) (hi := 180) hF22 hs43 (by omega)
              exact ra_weak (by repeat' constructor) (lp_250_146 hpn _ s43 hF45 (fun a h17 h18 h19 h20 => ((hp44o a (by assumption)).trans ((hp21o a (by assumption)).trans ((hp15o a (by assumption)).trans (hov a h17 h18 h19 h20))))) (by omega) (Nat.lt_succ_self _))
          · refine ra_load rfl rfl rfl rfl ?_
            refine ra_iconst rfl ?_
            refine ra_putI rfl lk_8_204 (Nat.zero_le _) sh_179 rfl rfl ?_
            refine ra_newU (by first | omega | (unfold ra_in at *; omega)) (fun s69 hs69 hp70 hp70o => ?_)
            have hp70_12 := hp70o 12 (by decide)
            have hp70_17 := hp70o 17 (by decide)
            have hp70_18 := hp70o 18 (by decide)
            have hp70_19 := hp70o 19 (by decide)
            have hF71 := Fr_tr (lo := 179) (hi := 180) hF22 hs69 (by omega)
            exact ra_weak (by repeat' constructor) (lp_250_93 hpn _ s69 hF71 (fun a h17 h18 h19 h20 => ((hp70o a (by assumption)).trans ((hp21o a (by assumption)).trans ((hp15o a (by assumption)).trans (hov a h17 h18 h19 h20))))) (by omega) (Nat.lt_succ_self _))
        · refine ra_load rfl rfl rfl rfl ?_
          refine ra_iconst rfl ?_
          refine ra_putI rfl lk_8_204 (Nat.zero_le _) sh_179 rfl rfl ?_
          refine ra_newU (by first | omega | (unfold ra_in at *; omega)) (fun s81 hs81 hp82 hp82o => ?_)
          have hp82_12 := hp82o 12 (by decide)
          have hp82_17 := hp82o 17 (by decide)
          have hp82_18 := hp82o 18 (by decide)
          have hp82_19 := hp82o 19 (by decide)
          have hF83 := Fr_tr (lo := 179) (hi := 180) hF22 hs81 (by omega)
          refine ra_goto rfl rfl ?_
          exact ra_return rfl rfl ⟨rfl, ⟨hF83, (fun a h17 h18 h19 h20 => ((hp82o a (by assumption)).trans ((hp21o a (by assumption)).trans ((hp15o a (by assumption)).trans (hov a h17 h18 h19 h20))))), by omega, by omega⟩⟩
      · refine ra_load rfl rfl rfl rfl ?_
        refine ra_dup rfl rfl ?_
        refine ra_getI rfl lk_8_192 (Nat.zero_le _) sh_179 rfl ?_
        have hr84 : ra_in (ra_g s (179) 17) := (ra_in_g _ _ _)
        refine ra_iconst rfl ?_
        refine ra_iadd rfl ?_
        refine ra_putI rfl lk_8_192 (Nat.zero_le _) sh_179 rfl rfl ?_
        refine ra_newU (by first | omega | (unfold ra_in at *; omega)) (fun s85 hs85 hp86 hp86o => ?_)
        have hp86_12 := hp86o 12 (by decide)
        have hp86_18 := hp86o 18 (by decide)
        have hp86_19 := hp86o 19 (by decide)
        have hp86_20 := hp86o 20 (by decide)
        have hF87 := Fr_tr (lo := 179) (hi := 180) hF hs85 (by omega)
        refine ra_goto rfl rfl ?_
        exact ra_weak (by repeat' constructor) (ih s85 hF87 (fun a h17 h18 h19 h20 => ((hp86o a (by assumption)).trans (hov a h17 h18 h19 h20))) (by omega) (by first | omega | (unfold ra_in at *; omega)))
theorem sp_250 {n : Nat} {f : Nat → Int32} {d : Nat}  {σ : ra_V} (hpn : 0 ≤ ra_g σ 179 17 ∧ ra_g σ 179 17 ≤ ra_g σ 179 12 ∧ ra_g σ 179 12 ≤ 500) : ra_C (g_Gs n f) g_sh 0 (d + 2) 250 [.index (179)] σ (fun r s => rV r ∧ Fr (179) (180) σ s ∧ (∀ a, a ≠ 17 → a ≠ 18 → a ≠ 19 → a ≠ 20 → ra_g s 179 a = ra_g σ 179 a) ∧ (0 ≤ ra_g s 179 18 ∧ ra_g s 179 18 ≤ ra_g s 179 17 ∧ ra_g s 179 17 ≤ ra_g s 179 12 ∧ ra_g s 179 12 ≤ 500 ∧ 0 ≤ ra_g s 179 19 ∧ ra_g s 179 19 ≤ 999) ∧ ra_g σ 179 17 ≤ ra_g s 179 17 ∧ (ra_g s 179 20 = 3 → ra_g σ 179 17 < ra_g s 179 17)) := by
  refine ra_enter (nn := 1) mt_250 rfl (Nat.le_of_ble_eq_true rfl) rfl (fun h => absurd h (by decide +kernel)) ?_
  exact ra_weak (by repeat' constructor) (lp_250_0 hpn _ σ Fr_rf (fun a h17 h18 h19 h20 => rfl) (by omega) (Nat.lt_succ_self _))
end RB
end
section
/-! a number taken -/
section RB
section
variable {G : ri_Tb} {sh : ra_Sh} {b d mi : Nat} {M : ri_Mt} {pc : Nat} {L : List (Option Jvm.Term)} {st rest args : List Jvm.Term} {σ : ra_V} {Q : ra_Q} {i : Instr} {S : ra_V → Prop} {P : Int → ra_V → Prop}
theorem ra_cQPs (hC : ra_C G sh 0 d mi args σ (fun r s => (∃ z : Int, (z = 0 ∨ z = 1) ∧ P z s ∧ r = .inl (some (ra_I z))) ∧ S s)) (hd : (ri_co M)[pc]? = some (some (i, 3))) (ht : ra_ct G sh M i st args rest mi) (k : ∀ (z : Int) s, (z = 0 ∨ z = 1) → P z s → S s → ra_P G sh b d M (pc + 3) L (ra_I z :: rest) s Q) : ra_P G sh b d M pc L st σ Q :=
  ra_callA hC hd ht (fun E s h => by obtain ⟨⟨z, -, -, e⟩, -⟩ := h; cases e) (fun t s h => by obtain ⟨⟨z, hz, hp, e⟩, hs⟩ := h; cases e; exact k z s hz hp hs)
end
theorem pt_k {σ s : ra_V} (h : ∀ a, a ≠ 15 → a ≠ 16 → ra_g s 179 a = ra_g σ 179 a) (q : 0 ≤ ra_g σ 179 18 ∧ ra_g σ 179 18 ≤ ra_g σ 179 17 ∧ ra_g σ 179 17 ≤ ra_g σ 179 12 ∧ ra_g σ 179 12 ≤ 500 ∧ 0 ≤ ra_g σ 179 19 ∧ ra_g σ 179 19 ≤ 999) : 0 ≤ ra_g s 179 18 ∧ ra_g s 179 18 ≤ ra_g s 179 17 ∧ ra_g s 179 17 ≤ ra_g s 179 12 ∧ ra_g s 179 12 ≤ 500 ∧ 0 ≤ ra_g s 179 19 ∧ ra_g s 179 19 ≤ 999 := by
  have h1 := h 12 (by decide) (by decide)
  have h2 := h 17 (by decide) (by decide)
  have h3 := h 18 (by decide) (by decide)
  have h4 := h 19 (by decide) (by decide)
  omega
theorem pt_e {σ s : ra_V} (h1 : ra_g s 179 12 = ra_g σ 179 12) (h2 : ra_g s 179 17 = ra_g σ 179 17) (h3 : ra_g s 179 18 = ra_g σ 179 18) (h4 : ra_g s 179 19 = ra_g σ 179 19) (q : 0 ≤ ra_g σ 179 18 ∧ ra_g σ 179 18 ≤ ra_g σ 179 17 ∧ ra_g σ 179 17 ≤ ra_g σ 179 12 ∧ ra_g σ 179 12 ≤ 500 ∧ 0 ≤ ra_g σ 179 19 ∧ ra_g σ 179 19 ≤ 999) : 0 ≤ ra_g s 179 18 ∧ ra_g s 179 18 ≤ ra_g s 179 17 ∧ ra_g s 179 17 ≤ ra_g s 179 12 ∧ ra_g s 179 12 ≤ 500 ∧ 0 ≤ ra_g s 179 19 ∧ ra_g s 179 19 ≤ 999 := by
  omega
end RB
end
section
/-! the reference: what its methods do (printed by wip/gen/ref.py) -/
section RB
theorem sp_255 {n : Nat} {f : Nat → Int32} {d : Nat} {x0 : Int} {x1 : Int} {x2 : Int} {σ : ra_V} (hx0 : ra_in x0) (hx1 : ra_in x1) (hx2 : ra_in x2) (hpt : 0 ≤ ra_g σ 179 18 ∧ ra_g σ 179 18 ≤ ra_g σ 179 17 ∧ ra_g σ 179 17 ≤ ra_g σ 179 12 ∧ ra_g σ 179 12 ≤ 500 ∧ 0 ≤ ra_g σ 179 19 ∧ ra_g σ 179 19 ≤ 999) (hat : 0 ≤ x0 ∧ x0 < 4) : ra_C (g_Gs n f) g_sh 0 (d + 3) 255 [.index (179), ra_I x0, ra_I x1, ra_I x2] σ (fun r s => (∃ z : Int, (z = 0 ∨ z = 1) ∧ (z = 1 → (x1 ≤ ra_g s 188 x0.toNat ∧ ra_g s 188 x0.toNat ≤ x2 ∧ ra_g s 188 x0.toNat = ra_g σ 179 19 ∧ (ra_g s 179 20 = 3 → ra_g σ 179 17 < ra_g s 179 17))) ∧ r = .inl (some (ra_I z))) ∧ Fr (179) (189) σ s ∧ s (180) = σ (180) ∧ s (181) = σ (181) ∧ s (182) = σ (182) ∧ s (183) = σ (183) ∧ s (184) = σ (184) ∧ (∀ a, a ≠ 15 → a ≠ 16 → a ≠ 17 → a ≠ 18 → a ≠ 19 → a ≠ 20 → ra_g s 179 a = ra_g σ 179 a) ∧ (∀ a, a ≠ x0.toNat → ra_g s 188 a = ra_g σ 188 a) ∧ (0 ≤ ra_g s 179 18 ∧ ra_g s 179 18 ≤ ra_g s 179 17 ∧ ra_g s 179 17 ≤ ra_g s 179 12 ∧ ra_g s 179 12 ≤ 500 ∧ 0 ≤ ra_g s 179 19 ∧ ra_g s 179 19 ≤ 999) ∧ ra_g σ 179 17 ≤ ra_g s 179 17) := by
  refine ra_enter (nn := 0) mt_255 rfl (Nat.le_of_ble_eq_true rfl) rfl (fun h => absurd h (by decide +kernel)) ?_
  refine ra_load rfl rfl rfl rfl ?_
  refine ra_load rfl rfl rfl rfl ?_
  refine ra_load rfl rfl rfl rfl ?_
  refine ra_cQP (sp_254 hx1 hx2 (by first | assumption | rfl | omega)) rfl (ct_254 rfl lk_8_236 (Or.inl rfl) sh_179 (Nat.le_of_ble_eq_true rfl)) (fun z2 s1 hz2 hz2p hs1 => ?_)
  obtain ⟨hf3, he4⟩ := hs1
  have hF5 := Fr_tr (lo := 179) (hi := 189) Fr_rf hf3 (by omega)
  have hk6 : s1 (180) = σ (180) := (hf3 (180) (by omega))
  have hk7 : s1 (181) = σ (181) := (hf3 (181) (by omega))
  have hk8 : s1 (182) = σ (182) := (hf3 (182) (by omega))
  have hk9 : s1 (183) = σ (183) := (hf3 (183) (by omega))
  have hk10 : s1 (184) = σ (184) := (hf3 (184) (by omega))
  refine ra_ifne rfl rfl (ra_in01 hz2) (fun h11 => ?_) (fun h11 => ?_)
  · refine ra_load rfl rfl rfl rfl ?_
    refine ra_getR rfl lk_8_38 (Nat.zero_le _) sh_179 rfl ?_
    refine ra_load rfl rfl rfl rfl ?_
    refine ra_load rfl rfl rfl rfl ?_
    refine ra_getI rfl lk_8_201 (Nat.zero_le _) sh_179 rfl ?_
    have hr12 : ra_in (ra_g s1 (179) 19) := (ra_in_g _ _ _)
    refine ra_iastore rfl sh_188 rfl (by decide) (by first | omega | (unfold ra_in at *; omega)) (by first | omega | (unfold ra_in at *; omega)) ?_
    refine ra_newR hr12 (fun s13 hs13 hs13v hs13o => ?_)
    have hF14 := Fr_tr (lo := 179) (hi := 189) hF5 hs13 (by omega)
    have hk15 : s13 (180) = σ (180) := (hs13 (180) (by omega)).trans hk6
    have hk16 : s13 (181) = σ (181) := (hs13 (181) (by omega)).trans hk7
    have hk17 : s13 (182) = σ (182) := (hs13 (182) (by omega)).trans hk8
    have hk18 : s13 (183) = σ (183) := (hs13 (183) (by omega)).trans hk9
    have hk19 : s13 (184) = σ (184) := (hs13 (184) (by omega)).trans hk10
    refine ra_load rfl rfl rfl rfl ?_
    refine ra_cV (sp_250 (by have q := (pt_e (ra_gk (hs13 179 (by omega))) (ra_gk (hs13 179 (by omega))) (ra_gk (hs13 179 (by omega))) (ra_gk (hs13 179 (by omega))) (pt_e (he4 12 (by decide) (by decide)) (he4 17 (by decide) (by decide)) (he4 18 (by decide) (by decide)) (he4 19 (by decide) (by decide)) hpt)); omega)) rfl (ct_250 rfl lk_8_240 (Or.inl rfl) sh_179 (Nat.le_of_ble_eq_true rfl)) (fun s20 hs20 => ?_)
    obtain ⟨hf21, he22, he23, he24⟩ := hs20
    have hF25 := Fr_tr (lo := 179) (hi := 189) hF14 hf21 (by omega)
    have hk26 : s20 (180) = σ (180) := (hf21 (180) (by omega)).trans hk15
    have hk27 : s20 (181) = σ (181) := (hf21 (181) (by omega)).trans hk16
    have hk28 : s20 (182) = σ (182) := (hf21 (182) (by omega)).trans hk17
    have hk29 : s20 (183) = σ (183) := (hf21 (183) (by omega)).trans hk18
    have hk30 : s20 (184) = σ (184) := (hf21 (184) (by omega)).trans hk19
    refine ra_iconst rfl ?_
    exact ra_ireturn rfl (ra_okB (Or.inr rfl)) ⟨⟨_, (Or.inr rfl), (fun _ => by have m_s1 : ra_g s1 179 17 = ra_g σ 179 17 := (he4 17 (by decide) (by decide)); have k_s1 : ra_g s1 179 20 = ra_g σ 179 20 := (he4 20 (by decide) (by decide)); have m_s13 : ra_g s13 179 17 = ra_g s1 179 17 := (ra_gk (hs13 179 (by omega))); have k_s13 : ra_g s13 179 20 = ra_g s1 179 20 := (ra_gk (hs13 179 (by omega))); have m_s20 := he24.1; have m_a := he24.2; have a1 := he4 19 (by decide) (by decide); have a2 : ra_g s20 188 x0.toNat = ra_g s13 188 x0.toNat := ra_gk (hf21 188 (by omega)); have a3 := hs13v; have a4 := hz2p (by omega); exact ⟨by omega, by omega, by omega, fun q => by have := m_a q; omega⟩), rfl⟩, ⟨hF25, hk26, hk27, hk28, hk29, hk30, (fun a h15 h16 h17 h18 h19 h20 => ((he22 a h17 h18 h19 h20).trans ((ra_gk (hs13 179 (by omega))).trans (he4 a h15 h16)))), (fun a h => (ra_gk (hf21 188 (by omega))).trans ((hs13o a h).trans (ra_gk (hf3 188 (by omega))))), he23, (by have m_s1 : ra_g s1 179 17 = ra_g σ 179 17 := (he4 17 (by decide) (by decide)); have k_s1 : ra_g s1 179 20 = ra_g σ 179 20 := (he4 20 (by decide) (by decide)); have m_s13 : ra_g s13 179 17 = ra_g s1 179 17 := (ra_gk (hs13 179 (by omega))); have k_s13 : ra_g s13 179 20 = ra_g s1 179 20 := (ra_gk (hs13 179 (by omega))); have m_s20 := he24.1; omega)⟩⟩
  · refine ra_iconst rfl ?_
    exact ra_ireturn rfl (ra_okB (Or.inl rfl)) ⟨⟨_, (Or.inl rfl), (fun q => absurd q (by decide)), rfl⟩, ⟨hF5, hk6, hk7, hk8, hk9, hk10, (fun a h15 h16 h17 h18 h19 h20 => (he4 a h15 h16)), (fun a h => ra_gk (hf3 188 (by omega))), (pt_e (he4 12 (by decide) (by decide)) (he4 17 (by decide) (by decide)) (he4 18 (by decide) (by decide)) (he4 19 (by decide) (by decide)) hpt), (by have m_s1 : ra_g s1 179 17 = ra_g σ 179 17 := (he4 17 (by decide) (by decide)); have k_s1 : ra_g s1 179 20 = ra_g σ 179 20 := (he4 20 (by decide) (by decide)); omega)⟩⟩
theorem sp_260 {n : Nat} {f : Nat → Int32} {d : Nat}  {σ : ra_V} (hpt : 0 ≤ ra_g σ 179 18 ∧ ra_g σ 179 18 ≤ ra_g σ 179 17 ∧ ra_g σ 179 17 ≤ ra_g σ 179 12 ∧ ra_g σ 179 12 ≤ 500 ∧ 0 ≤ ra_g σ 179 19 ∧ ra_g σ 179 19 ≤ 999) : ra_C (g_Gs n f) g_sh 0 (d + 3) 260 [.index (179)] σ (fun r s => (∃ z : Int, (z = 0 ∨ z = 1) ∧ (z = 1 → ra_g σ 179 20 = 3) ∧ r = .inl (some (ra_I z))) ∧ Fr (179) (180) σ s ∧ (∀ a, a ≠ 15 → a ≠ 16 → a ≠ 17 → a ≠ 18 → a ≠ 19 → a ≠ 20 → ra_g s 179 a = ra_g σ 179 a) ∧ (0 ≤ ra_g s 179 18 ∧ ra_g s 179 18 ≤ ra_g s 179 17 ∧ ra_g s 179 17 ≤ ra_g s 179 12 ∧ ra_g s 179 12 ≤ 500 ∧ 0 ≤ ra_g s 179 19 ∧ ra_g s 179 19 ≤ 999) ∧ ra_g σ 179 17 ≤ ra_g s 179 17) := by
  refine ra_enter (nn := 0) mt_260 rfl (Nat.le_of_ble_eq_true rfl) rfl (fun h => absurd h (by decide +kernel)) ?_
  refine ra_load rfl rfl rfl rfl ?_
  refine ra_getI rfl lk_8_204 (Nat.zero_le _) sh_179 rfl ?_
  have hr1 : ra_in (ra_g σ (179) 20) := (ra_in_g _ _ _)
  refine ra_iconst rfl ?_
  refine ra_iceq rfl rfl hr1 (by first | omega | (unfold ra_in at *; omega)) (fun h2 => ?_) (fun h2 => ?_)
  · refine ra_load rfl rfl rfl rfl ?_
    refine ra_cV (sp_250 (by omega)) rfl (ct_250 rfl lk_8_240 (Or.inl rfl) sh_179 (Nat.le_of_ble_eq_true rfl)) (fun s3 hs3 => ?_)
    obtain ⟨hf4, he5, he6, he7⟩ := hs3
    have hF8 := Fr_tr (lo := 179) (hi := 180) Fr_rf hf4 (by omega)
    refine ra_iconst rfl ?_
    exact ra_ireturn rfl (ra_okB (Or.inr rfl)) ⟨⟨_, (Or.inr rfl), (fun q => by omega), rfl⟩, ⟨hF8, (fun a h15 h16 h17 h18 h19 h20 => (he5 a h17 h18 h19 h20)), he6, (by have m_s3 := he7.1; omega)⟩⟩
  · refine ra_load rfl rfl rfl rfl ?_
    refine ra_iconst rfl ?_
    refine ra_cQP (sp_252 (by first | omega | (unfold ra_in at *; omega))) rfl (ct_252 rfl lk_8_233 (Or.inl rfl) sh_179 (Nat.le_of_ble_eq_true rfl)) (fun z10 s9 hz10 hz10p hs9 => ?_)
    obtain ⟨hf11, he12⟩ := hs9
    have hF13 := Fr_tr (lo := 179) (hi := 180) Fr_rf hf11 (by omega)
    exact ra_ireturn rfl (ra_okB hz10) ⟨⟨_, hz10, (fun q => by omega), rfl⟩, ⟨hF13, (fun a h15 h16 h17 h18 h19 h20 => (he12 a h15 h16)), (pt_e (he12 12 (by decide) (by decide)) (he12 17 (by decide) (by decide)) (he12 18 (by decide) (by decide)) (he12 19 (by decide) (by decide)) hpt), (by have m_s9 : ra_g s9 179 17 = ra_g σ 179 17 := (he12 17 (by decide) (by decide)); have k_s9 : ra_g s9 179 20 = ra_g σ 179 20 := (he12 20 (by decide) (by decide)); omega)⟩⟩
end RB
end
section
/-! while a text is read: the partitions that exist are the first ones -/
section RB
def LD (σ : ra_V) : Prop := WF σ ∧ ra_g σ 180 16 = -1 ∧ (0 ≤ ra_g σ 180 5 ∧ ra_g σ 180 5 ≤ 8) ∧ ∀ p, 0 ≤ p → p < 8 → (wq σ p 0 = 1 ↔ p < ra_g σ 180 5)
section
variable {σ s : ra_V}
theorem LD_k (h : s 180 = σ 180) (q : LD σ) : LD s := by
  obtain ⟨h1, h2, h3, h4⟩ := q
  refine ⟨WF_k h h1, by rw [ra_gk h]; exact h2, by rw [ra_gk h]; exact h3, fun p p0 p1 => ?_⟩
  rw [wq_k h, ra_gk h]
  exact h4 p p0 p1
theorem WF_emp (h1 : WFs (rw_ s)) (e : ∀ p, 0 ≤ p → p < 8 → wq s p 0 = 0) (h16 : ra_g s 180 16 = -1) : WF s := by
  refine ⟨h1, fun p p0 p1 => Or.inl (e p p0 p1), fun p p0 p1 pe => ?_, fun p q p0 p1 q0 q1 hn pe qe => ?_, Or.inl h16⟩
  · have e2 : wf (rw_ s) p 0 = 0 := e p p0 p1
    rw [e2] at pe
    omega
  · have e2 : wf (rw_ s) p 0 = 0 := e p p0 p1
    rw [e2] at pe
    omega
theorem LD_0 (h : WF s) (hz : ∀ a, a < 88 → a ≠ 0 → a ≠ 3 → a ≠ 4 → a ≠ 16 → ra_g s 180 a = 0) : LD s ∧ ra_g s 180 5 = 0 := by
  have e : ∀ p, 0 ≤ p → p < 8 → wq s p 0 = 0 := fun p p0 p1 => hz (24 + 8 * p + 0).toNat (by omega) (by omega) (by omega) (by omega) (by omega)
  have h5 : ra_g s 180 5 = 0 := hz 5 (by omega) (by omega) (by omega) (by omega) (by omega)
  refine ⟨⟨h, ?_, by omega, fun p p0 p1 => ⟨fun q => ?_, fun q => by omega⟩⟩, h5⟩
  · by_cases c : ra_g s 180 16 = -1
    · exact c
    · obtain ⟨⟨c0, c1⟩, c2, -⟩ := WF_msz h c
      have := e _ c0 c1
      omega
  · have := e p p0 p1
    omega
theorem LD_set {j : Nat} (h : LD σ) (hj : j < 5) (o : ∀ a, a ≠ j → ra_g s 180 a = ra_g σ 180 a) (v0 : j = 0 → 64 ≤ ra_g s 180 j ∧ ra_g s 180 j ≤ 600) (v1 : j = 1 ∨ j = 2 → 0 ≤ ra_g s 180 j ∧ ra_g s 180 j ≤ 31) (v3 : j = 3 → 1 ≤ ra_g s 180 j ∧ ra_g s 180 j ≤ 32) (v4 : j = 4 → 1 ≤ ra_g s 180 j ∧ ra_g s 180 j ≤ 16) (hm : ra_g σ 180 5 = 0 ∨ j = 4) : LD s := by
  obtain ⟨h1, h2, h3, h4⟩ := h
  have o5 : ra_g s 180 5 = ra_g σ 180 5 := o 5 (by omega)
  have oq : ∀ p, 0 ≤ p → p < 8 → wq s p 0 = wq σ p 0 := fun p p0 p1 => o (24 + 8 * p + 0).toNat (by omega)
  have o16 : ra_g s 180 16 = -1 := (o 16 (by omega)).trans h2
  refine ⟨?_, o16, by omega, fun p p0 p1 => by rw [oq p p0 p1, o5]; exact h4 p p0 p1⟩
  rcases hm with hm | hm
  · have hs := WF_a h1
    unfold WFa at hs
    refine WF_emp ?_ (fun p p0 p1 => ?_) o16
    · show (64 ≤ ra_g s 180 0 ∧ ra_g s 180 0 ≤ 600) ∧ (0 ≤ ra_g s 180 1 ∧ ra_g s 180 1 ≤ 31) ∧ (0 ≤ ra_g s 180 2 ∧ ra_g s 180 2 ≤ 31) ∧ (1 ≤ ra_g s 180 3 ∧ ra_g s 180 3 ≤ 32) ∧ (1 ≤ ra_g s 180 4 ∧ ra_g s 180 4 ≤ 16)
      have k : ∀ i, i < 5 → i = j ∨ ra_g s 180 i = ra_g σ 180 i := fun i hi => if e : i = j then Or.inl e else Or.inr (o i e)
      refine ⟨?_, ?_, ?_, ?_, ?_⟩
      · rcases k 0 (by omega) with e | e
        · have := v0 e.symm; rw [← e] at this; exact this
        · rw [e]; exact hs.1
      · rcases k 1 (by omega) with e | e
        · have := v1 (Or.inl e.symm); rw [← e] at this; exact this
        · rw [e]; exact hs.2.1
      · rcases k 2 (by omega) with e | e
        · have := v1 (Or.inr e.symm); rw [← e] at this; exact this
        · rw [e]; exact hs.2.2.1
      · rcases k 3 (by omega) with e | e
        · have := v3 e.symm; rw [← e] at this; exact this
        · rw [e]; exact hs.2.2.2.1
      · rcases k 4 (by omega) with e | e
        · have := v4 e.symm; rw [← e] at this; exact this
        · rw [e]; exact hs.2.2.2.2.1
    · rw [oq p p0 p1]
      have := WF_ex h1 p0 p1
      have := h4 p p0 p1
      omega
  · subst hm
    have := v4 rfl
    exact WF_set (j := 4) h1 (Or.inr rfl) o ⟨by omega, by omega, fun _ => by omega⟩
theorem LD_x (h : LD σ) (h8 : ra_g σ 180 5 ≠ 8) : ∃ q, 0 ≤ q ∧ q < 8 ∧ wq σ q 0 ≠ 1 := by
  obtain ⟨h1, h2, h3, h4⟩ := h
  have := h4 (ra_g σ 180 5) (by omega) (by omega)
  exact ⟨ra_g σ 180 5, by omega, by omega, by omega⟩
def MK2 (σ s : ra_V) (z a m mn : Int) : Prop := MKN σ s z a m mn ∧ ra_g s 180 5 = ra_g σ 180 5 + 1 ∧ ∀ r, 0 ≤ r → r < z → wq σ r 0 = 1
theorem LD_new {z a m mn : Int} (h : LD σ) (hk : MK2 σ s z a m mn) (h8 : ra_g σ 180 5 ≠ 8) (hu : US σ a m) (ht : ¬ TK σ a m (-1)) (hm : 1 ≤ mn ∧ mn ≤ m) : LD s := by
  obtain ⟨h1, h2, h3, h4⟩ := h
  obtain ⟨k1, k2, k3⟩ := hk
  have hw := WF_new h1 k1 hu ht (fun q => q.1 h2) hm
  obtain ⟨⟨z0, z1, z2⟩, w0, -, -, -, w4⟩ := k1
  have ez : z = ra_g σ 180 5 := by
    have a1 := h4 z z0 z1
    by_cases c : ra_g σ 180 5 < z
    · have := k3 (ra_g σ 180 5) (by omega) c
      have := h4 (ra_g σ 180 5) (by omega) (by omega)
      omega
    · omega
  refine ⟨hw, ?_, by omega, fun p p0 p1 => ?_⟩
  · exact (w4 16 (by omega) (by omega) (by omega)).trans h2
  · by_cases c : p = z
    · subst c
      omega
    · have e : wq s p 0 = wq σ p 0 := w4 (24 + 8 * p + 0).toNat (by omega) (by omega) (by omega)
      have := h4 p p0 p1
      omega
theorem LD_lock {p : Int} (h : LD σ) (hp : 0 ≤ p ∧ p < 8) (o : ∀ a, a ≠ (24 + 8 * p + 5).toNat → ra_g s 180 a = ra_g σ 180 a) : LD s := by
  obtain ⟨h1, h2, h3, h4⟩ := h
  have o5 : ra_g s 180 5 = ra_g σ 180 5 := o 5 (by omega)
  refine ⟨WF_rel (fun a ha => o a (by unfold REL at ha; omega)) h1, (o 16 (by omega)).trans h2, by omega, fun q q0 q1 => ?_⟩
  have e : wq s q 0 = wq σ q 0 := o (24 + 8 * q + 0).toNat (by omega)
  have := h4 q q0 q1
  omega
end
theorem toN0 : (0 : Int).toNat = 0 := rfl
theorem toN1 : (1 : Int).toNat = 1 := rfl
theorem toN2 : (2 : Int).toNat = 2 := rfl
theorem toN3 : (3 : Int).toNat = 3 := rfl
end RB
end
