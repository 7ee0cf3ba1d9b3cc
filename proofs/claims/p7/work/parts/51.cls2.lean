/-! the class: what its methods do, told weakly (printed by wip/gen/cls.py) -/
section CW
theorem sp_49 {n : Nat} {f : Nat → Int32} {d : Nat} {x0 : Int} {x1 : Int} {σ : ra_V} (hx0 : ra_in x0) (hx1 : ra_in x1) (hf : 0 ≤ ra_g σ (172) 2) : ra_C (g_Gs n f) g_sh 0 (d + 1) 49 [.index (172), ra_I x0, ra_I x1] σ (fun r s => rV r ∧ Fr (172) (175) σ s ∧ 0 ≤ ra_g s (172) 2) := by
  refine ra_enter (nn := 0) mt_49 rfl (Nat.le_of_ble_eq_true rfl) rfl (fun h => absurd h (by decide +kernel)) ?_
  refine ra_load rfl rfl rfl rfl ?_
  refine ra_getI rfl lk_1_18 (Nat.zero_le _) sh_172 rfl ?_
  refine ra_load rfl rfl rfl rfl ?_
  refine ra_getR rfl lk_1_11 (Nat.zero_le _) sh_172 rfl ?_
  refine ra_alen rfl sh_173 rfl ?_
  refine ra_icge rfl rfl (ra_in_g _ _ _) (by first | omega | (unfold ra_in at *; omega)) (fun h1 => ?_) (fun h1 => ?_)
  · exact ra_return rfl rfl ⟨rfl, ⟨Fr_rf, by omega⟩⟩
  · refine ra_load rfl rfl rfl rfl ?_
    refine ra_getI rfl lk_1_18 (Nat.zero_le _) sh_172 rfl ?_
    refine ra_load rfl rfl rfl rfl ?_
    refine ra_getR rfl lk_1_15 (Nat.zero_le _) sh_172 rfl ?_
    refine ra_alen rfl sh_174 rfl ?_
    refine ra_icge rfl rfl (ra_in_g _ _ _) (by first | omega | (unfold ra_in at *; omega)) (fun h2 => ?_) (fun h2 => ?_)
    · exact ra_return rfl rfl ⟨rfl, ⟨Fr_rf, by omega⟩⟩
    · refine ra_load rfl rfl rfl rfl ?_
      refine ra_getR rfl lk_1_11 (Nat.zero_le _) sh_172 rfl ?_
      refine ra_load rfl rfl rfl rfl ?_
      refine ra_getI rfl lk_1_18 (Nat.zero_le _) sh_172 rfl ?_
      refine ra_load rfl rfl rfl rfl ?_
      refine ra_iastore rfl sh_173 rfl (by decide) (by first | omega | (unfold ra_in at *; omega)) (by first | omega | (unfold ra_in at *; omega)) ?_
      refine ra_new Fr_up (fun s3 hs3 => ?_)
      have hF4 := Fr_tr (lo := 172) (hi := 175) Fr_rf hs3 (by omega)
      have hk5 : s3 (172) = σ (172) := (hs3 (172) (by omega))
      refine ra_load rfl rfl rfl rfl ?_
      refine ra_getR rfl lk_1_15 (Nat.zero_le _) sh_172 rfl ?_
      refine ra_load rfl rfl rfl rfl ?_
      refine ra_getI rfl lk_1_18 (Nat.zero_le _) sh_172 rfl ?_
      rw [ra_gk hk5]
      refine ra_load rfl rfl rfl rfl ?_
      refine ra_iastore rfl sh_174 rfl (by decide) (by first | omega | (unfold ra_in at *; omega)) (by first | omega | (unfold ra_in at *; omega)) ?_
      refine ra_new Fr_up (fun s6 hs6 => ?_)
      have hF7 := Fr_tr (lo := 172) (hi := 175) hF4 hs6 (by omega)
      have hk8 : s6 (172) = σ (172) := (hs6 (172) (by omega)).trans hk5
      refine ra_load rfl rfl rfl rfl ?_
      refine ra_dup rfl rfl ?_
      refine ra_getI rfl lk_1_18 (Nat.zero_le _) sh_172 rfl ?_
      rw [ra_gk hk8]
      refine ra_iconst rfl ?_
      refine ra_iadd rfl ?_
      refine ra_putI rfl lk_1_18 (Nat.zero_le _) sh_172 rfl rfl ?_
      refine ra_newU (by first | omega | (unfold ra_in at *; omega)) (fun s9 hs9 hp51 hp51o => ?_)
      have hF10 := Fr_tr (lo := 172) (hi := 175) hF7 hs9 (by omega)
      exact ra_return rfl rfl ⟨rfl, ⟨hF10, by omega⟩⟩
theorem lp_48_26 {n : Nat} {f : Nat → Int32} {d : Nat} {E0 : Nat} {σ : ra_V} (hE0 : isD E0) : ∀ (nn : Nat) (v2 : Int) (v3 : Int) (v4 : Int) (s : ra_V) (hv2 : ra_in v2) (hv3 : ra_in v3) (hv4_0 : 0 ≤ v4) (hv4_1 : v4 ≤ 600) (hF : Fr (172) (175) σ s) (hg : 0 ≤ ra_g s (172) 2) (hm : ((600 - v4 : Int)).toNat < nn), ra_P (g_Gs n f) g_sh 0 (d + 4) g_m_X1_find 26 [some (.index (172)), some (.index (E0)), some (ra_I v2), some (ra_I v3), some (ra_I v4), none] [] s (fun r s => rV r ∧ Fr (172) (175) σ s) := by
  intro nn
  induction nn with
  | zero => intro v2 v3 v4 s hv2 hv3 hv4_0 hv4_1 hF hg hm; exact absurd hm (Nat.not_lt_zero _)
  | succ nn ih =>
    intro v2 v3 v4 s hv2 hv3 hv4_0 hv4_1 hF hg hm
    refine ra_load rfl rfl rfl rfl ?_
    refine ra_sipush rfl (by decide) ?_
    refine ra_icge rfl rfl (by first | omega | (unfold ra_in at *; omega)) (by first | omega | (unfold ra_in at *; omega)) (fun h11 => ?_) (fun h11 => ?_)
    · exact ra_return rfl rfl ⟨rfl, hF⟩
    · refine ra_load rfl rfl rfl rfl ?_
      refine ra_load rfl rfl rfl rfl ?_
      refine ra_icge rfl rfl hv2 hv3 (fun h12 => ?_) (fun h12 => ?_)
      · exact ra_return rfl rfl ⟨rfl, hF⟩
      · refine ra_load rfl rfl rfl rfl ?_
        refine ra_load rfl rfl rfl rfl ?_
        refine ra_cIp (sp_14 hE0 hv2) rfl (ct_14 rfl lk_1_35 (Or.inl rfl) (sh_D hE0) (Nat.le_of_ble_eq_true rfl)) (fun z14 hz14 => ?_)
        refine ra_store (L' := [_, _, _, _, _, _]) rfl rfl rfl (Nat.le_of_ble_eq_true rfl) rfl ?_
        refine ra_load rfl rfl rfl rfl ?_
        refine ra_load rfl rfl rfl rfl ?_
        refine ra_icne rfl rfl hz14 hv2 (fun h15 => ?_) (fun h15 => ?_)
        · refine ra_load rfl rfl rfl rfl ?_
          refine ra_store (L' := [_, _, _, _, _, _]) rfl rfl rfl (Nat.le_of_ble_eq_true rfl) rfl ?_
          refine ra_iinc (L' := [_, _, _, _, _, _]) rfl rfl (Nat.le_of_ble_eq_true rfl) rfl ?_
          refine ra_goto rfl rfl ?_
          exact ra_weak (by repeat' constructor) (ih z14 v3 (v4 + 1) s hz14 hv3 (by first | omega | (unfold ra_in at *; omega)) (by first | omega | (unfold ra_in at *; omega)) hF (by first | assumption | omega) (by first | omega | (unfold ra_in at *; omega)))
        · refine ra_load rfl rfl rfl rfl ?_
          refine ra_load rfl rfl rfl rfl ?_
          refine ra_cIp (sp_15 hE0 hv2) rfl (ct_15 rfl lk_1_39 (Or.inl rfl) (sh_D hE0) (Nat.le_of_ble_eq_true rfl)) (fun z17 hz17 => ?_)
          refine ra_store (L' := [_, _, _, _, _, _]) rfl rfl rfl (Nat.le_of_ble_eq_true rfl) rfl ?_
          refine ra_load rfl rfl rfl rfl ?_
          refine ra_load rfl rfl rfl rfl ?_
          refine ra_load rfl rfl rfl rfl ?_
          refine ra_load rfl rfl rfl rfl ?_
          refine ra_isub rfl ?_
          refine ra_gen (fun z18 hz18 => ?_)
          refine ra_cV (sp_49 hv2 hz18 (by first | assumption | rfl | omega)) rfl (ct_49 rfl lk_1_42 (Or.inl rfl) sh_172 (Nat.le_of_ble_eq_true rfl)) (fun s19 hs19 => ?_)
          obtain ⟨hf20, he21⟩ := hs19
          have hF22 := Fr_tr (lo := 172) (hi := 175) hF hf20 (by omega)
          refine ra_load rfl rfl rfl rfl ?_
          refine ra_store (L' := [_, _, _, _, _, _]) rfl rfl rfl (Nat.le_of_ble_eq_true rfl) rfl ?_
          refine ra_iinc (L' := [_, _, _, _, _, _]) rfl rfl (Nat.le_of_ble_eq_true rfl) rfl ?_
          refine ra_goto rfl rfl ?_
          exact ra_weak (by repeat' constructor) (ih z17 v3 (v4 + 1) s19 hz17 hv3 (by first | omega | (unfold ra_in at *; omega)) (by first | omega | (unfold ra_in at *; omega)) hF22 (by first | assumption | omega) (by first | omega | (unfold ra_in at *; omega)))
theorem sp_48 {n : Nat} {f : Nat → Int32} {d : Nat} {E0 : Nat} {σ : ra_V} (hE0 : isD E0) : ra_C (g_Gs n f) g_sh 0 (d + 5) 48 [.index (172), .index (E0)] σ (fun r s => rV r ∧ Fr (172) (175) σ s) := by
  refine ra_enter (nn := 4) mt_48 rfl (Nat.le_of_ble_eq_true rfl) rfl (fun h => absurd h (by decide +kernel)) ?_
  refine ra_load rfl rfl rfl rfl ?_
  refine ra_iconst rfl ?_
  refine ra_putI rfl lk_1_18 (Nat.zero_le _) sh_172 rfl rfl ?_
  refine ra_newU (by first | omega | (unfold ra_in at *; omega)) (fun s1 hs1 hp2 hp2o => ?_)
  have hF3 := Fr_tr (lo := 172) (hi := 175) Fr_rf hs1 (by omega)
  refine ra_load rfl rfl rfl rfl ?_
  refine ra_load rfl rfl rfl rfl ?_
  refine ra_getI rfl lk_1_22 (Nat.zero_le _) (sh_D hE0) rfl ?_
  refine ra_gen (fun z4 hz4 => ?_)
  refine ra_putI rfl lk_1_27 (Nat.zero_le _) sh_172 rfl rfl ?_
  refine ra_newU hz4 (fun s5 hs5 hp6 hp6o => ?_)
  have hp6_2 := hp6o 2 (by decide)
  have hF7 := Fr_tr (lo := 172) (hi := 175) hF3 hs5 (by omega)
  refine ra_load rfl rfl rfl rfl ?_
  refine ra_getI rfl lk_1_28 (Nat.zero_le _) (sh_D hE0) rfl ?_
  refine ra_gen (fun z8 hz8 => ?_)
  refine ra_store (L' := [_, _, _, _, _, _]) rfl rfl rfl (Nat.le_of_ble_eq_true rfl) rfl ?_
  refine ra_load rfl rfl rfl rfl ?_
  refine ra_cIp (sp_9 hE0) rfl (ct_9 rfl lk_1_31 (Or.inl rfl) (sh_D hE0) (Nat.le_of_ble_eq_true rfl)) (fun z10 hz10 => ?_)
  refine ra_store (L' := [_, _, _, _, _, _]) rfl rfl rfl (Nat.le_of_ble_eq_true rfl) rfl ?_
  refine ra_iconst rfl ?_
  refine ra_store (L' := [_, _, _, _, _, _]) rfl rfl rfl (Nat.le_of_ble_eq_true rfl) rfl ?_
  exact ra_weak (by repeat' constructor) (lp_48_26 hE0 _ z8 z10 (0) s5 hz8 hz10 (by first | omega | (unfold ra_in at *; omega)) (by first | omega | (unfold ra_in at *; omega)) hF7 (by first | assumption | omega) (Nat.lt_succ_self _))
theorem sp_50 {n : Nat} {f : Nat → Int32} {d : Nat} {x0 : Int} {σ : ra_V} (hx0 : ra_in x0) : ra_C (g_Gs n f) g_sh 0 (d + 1) 50 [.index (172), ra_I x0] σ (fun r s => rI r ∧ s = σ) := by
  refine ra_enter (nn := 0) mt_50 rfl (Nat.le_of_ble_eq_true rfl) rfl (fun h => absurd h (by decide +kernel)) ?_
  refine ra_load rfl rfl rfl rfl ?_
  refine ra_iflt rfl rfl hx0 (fun h1 => ?_) (fun h1 => ?_)
  · refine ra_iconst rfl ?_
    refine ra_goto rfl rfl ?_
    exact ra_ireturn rfl rfl ⟨⟨_, (by first | omega | (unfold ra_in at *; omega)), rfl⟩, rfl⟩
  · refine ra_load rfl rfl rfl rfl ?_
    refine ra_load rfl rfl rfl rfl ?_
    refine ra_getR rfl lk_1_11 (Nat.zero_le _) sh_172 rfl ?_
    refine ra_alen rfl sh_173 rfl ?_
    refine ra_iclt rfl rfl hx0 (by first | omega | (unfold ra_in at *; omega)) (fun h2 => ?_) (fun h2 => ?_)
    · refine ra_load rfl rfl rfl rfl ?_
      refine ra_getR rfl lk_1_11 (Nat.zero_le _) sh_172 rfl ?_
      refine ra_load rfl rfl rfl rfl ?_
      refine ra_iaload rfl sh_173 rfl (by decide) (by first | omega | (unfold ra_in at *; omega)) (by first | omega | (unfold ra_in at *; omega)) ?_
      refine ra_gen (fun z3 hz3 => ?_)
      exact ra_ireturn rfl rfl ⟨⟨_, hz3, rfl⟩, rfl⟩
    · refine ra_iconst rfl ?_
      refine ra_goto rfl rfl ?_
      exact ra_ireturn rfl rfl ⟨⟨_, (by first | omega | (unfold ra_in at *; omega)), rfl⟩, rfl⟩
theorem sp_51 {n : Nat} {f : Nat → Int32} {d : Nat} {x0 : Int} {σ : ra_V} (hx0 : ra_in x0) : ra_C (g_Gs n f) g_sh 0 (d + 1) 51 [.index (172), ra_I x0] σ (fun r s => rI r ∧ s = σ) := by
  refine ra_enter (nn := 0) mt_51 rfl (Nat.le_of_ble_eq_true rfl) rfl (fun h => absurd h (by decide +kernel)) ?_
  refine ra_load rfl rfl rfl rfl ?_
  refine ra_iflt rfl rfl hx0 (fun h1 => ?_) (fun h1 => ?_)
  · refine ra_iconst rfl ?_
    refine ra_goto rfl rfl ?_
    exact ra_ireturn rfl rfl ⟨⟨_, (by first | omega | (unfold ra_in at *; omega)), rfl⟩, rfl⟩
  · refine ra_load rfl rfl rfl rfl ?_
    refine ra_load rfl rfl rfl rfl ?_
    refine ra_getR rfl lk_1_15 (Nat.zero_le _) sh_172 rfl ?_
    refine ra_alen rfl sh_174 rfl ?_
    refine ra_iclt rfl rfl hx0 (by first | omega | (unfold ra_in at *; omega)) (fun h2 => ?_) (fun h2 => ?_)
    · refine ra_load rfl rfl rfl rfl ?_
      refine ra_getR rfl lk_1_15 (Nat.zero_le _) sh_172 rfl ?_
      refine ra_load rfl rfl rfl rfl ?_
      refine ra_iaload rfl sh_174 rfl (by decide) (by first | omega | (unfold ra_in at *; omega)) (by first | omega | (unfold ra_in at *; omega)) ?_
      refine ra_gen (fun z3 hz3 => ?_)
      exact ra_ireturn rfl rfl ⟨⟨_, hz3, rfl⟩, rfl⟩
    · refine ra_iconst rfl ?_
      refine ra_goto rfl rfl ?_
      exact ra_ireturn rfl rfl ⟨⟨_, (by first | omega | (unfold ra_in at *; omega)), rfl⟩, rfl⟩
theorem sp_52 {n : Nat} {f : Nat → Int32} {d : Nat} {x0 : Int} {σ : ra_V} (hx0 : ra_in x0) : ra_C (g_Gs n f) g_sh 0 (d + 2) 52 [.index (172), ra_I x0] σ (fun r s => rI r ∧ s = σ) := by
  refine ra_enter (nn := 0) mt_52 rfl (Nat.le_of_ble_eq_true rfl) rfl (fun h => absurd h (by decide +kernel)) ?_
  refine ra_load rfl rfl rfl rfl ?_
  refine ra_load rfl rfl rfl rfl ?_
  refine ra_cIp (sp_50 hx0) rfl (ct_50 rfl lk_1_46 (Or.inl rfl) sh_172 (Nat.le_of_ble_eq_true rfl)) (fun z2 hz2 => ?_)
  refine ra_load rfl rfl rfl rfl ?_
  refine ra_getI rfl lk_1_27 (Nat.zero_le _) sh_172 rfl ?_
  refine ra_gen (fun z3 hz3 => ?_)
  refine ra_cIp (sp_186 hz2 hz3) rfl (ct_186 rfl lk_1_49 (Or.inr ⟨rfl, rfl⟩) (Nat.le_of_ble_eq_true rfl)) (fun z5 hz5 => ?_)
  exact ra_ireturn rfl rfl ⟨⟨_, hz5, rfl⟩, rfl⟩
theorem sp_53 {n : Nat} {f : Nat → Int32} {d : Nat} {x0 : Int} {σ : ra_V} (hx0 : ra_in x0) : ra_C (g_Gs n f) g_sh 0 (d + 3) 53 [.index (172), ra_I x0] σ (fun r s => rI r ∧ s = σ) := by
  refine ra_enter (nn := 0) mt_53 rfl (Nat.le_of_ble_eq_true rfl) rfl (fun h => absurd h (by decide +kernel)) ?_
  refine ra_load rfl rfl rfl rfl ?_
  refine ra_load rfl rfl rfl rfl ?_
  refine ra_cIp (sp_50 hx0) rfl (ct_50 rfl lk_1_46 (Or.inl rfl) sh_172 (Nat.le_of_ble_eq_true rfl)) (fun z2 hz2 => ?_)
  refine ra_load rfl rfl rfl rfl ?_
  refine ra_load rfl rfl rfl rfl ?_
  refine ra_cIp (sp_50 hx0) rfl (ct_50 rfl lk_1_46 (Or.inl rfl) sh_172 (Nat.le_of_ble_eq_true rfl)) (fun z4 hz4 => ?_)
  refine ra_load rfl rfl rfl rfl ?_
  refine ra_load rfl rfl rfl rfl ?_
  refine ra_cIp (sp_51 hx0) rfl (ct_51 rfl lk_1_53 (Or.inl rfl) sh_172 (Nat.le_of_ble_eq_true rfl)) (fun z6 hz6 => ?_)
  refine ra_iadd rfl ?_
  refine ra_gen (fun z7 hz7 => ?_)
  refine ra_load rfl rfl rfl rfl ?_
  refine ra_getI rfl lk_1_27 (Nat.zero_le _) sh_172 rfl ?_
  refine ra_gen (fun z8 hz8 => ?_)
  refine ra_cIp (sp_187 hz2 hz7 hz8) rfl (ct_187 rfl lk_1_56 (Or.inr ⟨rfl, rfl⟩) (Nat.le_of_ble_eq_true rfl)) (fun z10 hz10 => ?_)
  exact ra_ireturn rfl rfl ⟨⟨_, hz10, rfl⟩, rfl⟩
theorem lp_54_4 {n : Nat} {f : Nat → Int32} {d : Nat}  {σ : ra_V}  : ∀ (nn : Nat) (v1 : Int) (v2 : Int) (hv1 : ra_in v1) (hv2_0 : ra_in v2) (hm : ((ra_g σ (172) 2 - v2 : Int)).toNat < nn), ra_P (g_Gs n f) g_sh 0 (d + 1) g_m_X1_sectors 4 [some (.index (172)), some (ra_I v1), some (ra_I v2)] [] σ (fun r s => rI r ∧ s = σ) := by
  intro nn
  induction nn with
  | zero => intro v1 v2 hv1 hv2_0 hm; exact absurd hm (Nat.not_lt_zero _)
  | succ nn ih =>
    intro v1 v2 hv1 hv2_0 hm
    have hb := ra_in_g σ (172) 2
    refine ra_load rfl rfl rfl rfl ?_
    refine ra_load rfl rfl rfl rfl ?_
    refine ra_getI rfl lk_1_18 (Nat.zero_le _) sh_172 rfl ?_
    refine ra_icge rfl rfl (by first | omega | (unfold ra_in at *; omega)) (ra_in_g _ _ _) (fun h1 => ?_) (fun h1 => ?_)
    · refine ra_load rfl rfl rfl rfl ?_
      exact ra_ireturn rfl rfl ⟨⟨_, hv1, rfl⟩, rfl⟩
    · refine ra_load rfl rfl rfl rfl ?_
      refine ra_load rfl rfl rfl rfl ?_
      refine ra_load rfl rfl rfl rfl ?_
      refine ra_cIp (sp_51 (by first | omega | (unfold ra_in at *; omega))) rfl (ct_51 rfl lk_1_53 (Or.inl rfl) sh_172 (Nat.le_of_ble_eq_true rfl)) (fun z3 hz3 => ?_)
      refine ra_iadd rfl ?_
      refine ra_gen (fun z4 hz4 => ?_)
      refine ra_store (L' := [_, _, _]) rfl rfl rfl (Nat.le_of_ble_eq_true rfl) rfl ?_
      refine ra_iinc (L' := [_, _, _]) rfl rfl (Nat.le_of_ble_eq_true rfl) rfl ?_
      refine ra_goto rfl rfl ?_
      exact ra_weak (by repeat' constructor) (ih z4 (v2 + 1) hz4 (by first | omega | (unfold ra_in at *; omega)) (by first | omega | (unfold ra_in at *; omega)))
theorem sp_54 {n : Nat} {f : Nat → Int32} {d : Nat}  {σ : ra_V}  : ra_C (g_Gs n f) g_sh 0 (d + 2) 54 [.index (172)] σ (fun r s => rI r ∧ s = σ) := by
  refine ra_enter (nn := 2) mt_54 rfl (Nat.le_of_ble_eq_true rfl) rfl (fun h => absurd h (by decide +kernel)) ?_
  refine ra_iconst rfl ?_
  refine ra_store (L' := [_, _, _]) rfl rfl rfl (Nat.le_of_ble_eq_true rfl) rfl ?_
  refine ra_iconst rfl ?_
  refine ra_store (L' := [_, _, _]) rfl rfl rfl (Nat.le_of_ble_eq_true rfl) rfl ?_
  exact ra_weak (by repeat' constructor) (lp_54_4  _ (0) (0) (by first | omega | (unfold ra_in at *; omega)) (by first | omega | (unfold ra_in at *; omega)) (Nat.lt_succ_self _))
theorem lp_55_4 {n : Nat} {f : Nat → Int32} {d : Nat}  {σ : ra_V}  : ∀ (nn : Nat) (v1 : Int) (v2 : Int) (hv1 : ra_in v1) (hv2_0 : ra_in v2) (hm : ((ra_g σ (172) 2 - v2 : Int)).toNat < nn), ra_P (g_Gs n f) g_sh 0 (d + 3) g_m_X1_sectorsOfRooms 4 [some (.index (172)), some (ra_I v1), some (ra_I v2)] [] σ (fun r s => rI r ∧ s = σ) := by
  intro nn
  induction nn with
  | zero => intro v1 v2 hv1 hv2_0 hm; exact absurd hm (Nat.not_lt_zero _)
  | succ nn ih =>
    intro v1 v2 hv1 hv2_0 hm
    have hb := ra_in_g σ (172) 2
    refine ra_load rfl rfl rfl rfl ?_
    refine ra_load rfl rfl rfl rfl ?_
    refine ra_getI rfl lk_1_18 (Nat.zero_le _) sh_172 rfl ?_
    refine ra_icge rfl rfl (by first | omega | (unfold ra_in at *; omega)) (ra_in_g _ _ _) (fun h1 => ?_) (fun h1 => ?_)
    · refine ra_load rfl rfl rfl rfl ?_
      exact ra_ireturn rfl rfl ⟨⟨_, hv1, rfl⟩, rfl⟩
    · refine ra_load rfl rfl rfl rfl ?_
      refine ra_load rfl rfl rfl rfl ?_
      refine ra_load rfl rfl rfl rfl ?_
      refine ra_cIp (sp_53 (by first | omega | (unfold ra_in at *; omega))) rfl (ct_53 rfl lk_1_60 (Or.inl rfl) sh_172 (Nat.le_of_ble_eq_true rfl)) (fun z3 hz3 => ?_)
      refine ra_iadd rfl ?_
      refine ra_gen (fun z4 hz4 => ?_)
      refine ra_store (L' := [_, _, _]) rfl rfl rfl (Nat.le_of_ble_eq_true rfl) rfl ?_
      refine ra_iinc (L' := [_, _, _]) rfl rfl (Nat.le_of_ble_eq_true rfl) rfl ?_
      refine ra_goto rfl rfl ?_
      exact ra_weak (by repeat' constructor) (ih z4 (v2 + 1) hz4 (by first | omega | (unfold ra_in at *; omega)) (by first | omega | (unfold ra_in at *; omega)))
theorem sp_55 {n : Nat} {f : Nat → Int32} {d : Nat}  {σ : ra_V}  : ra_C (g_Gs n f) g_sh 0 (d + 4) 55 [.index (172)] σ (fun r s => rI r ∧ s = σ) := by
  refine ra_enter (nn := 2) mt_55 rfl (Nat.le_of_ble_eq_true rfl) rfl (fun h => absurd h (by decide +kernel)) ?_
  refine ra_iconst rfl ?_
  refine ra_store (L' := [_, _, _]) rfl rfl rfl (Nat.le_of_ble_eq_true rfl) rfl ?_
  refine ra_iconst rfl ?_
  refine ra_store (L' := [_, _, _]) rfl rfl rfl (Nat.le_of_ble_eq_true rfl) rfl ?_
  exact ra_weak (by repeat' constructor) (lp_55_4  _ (0) (0) (by first | omega | (unfold ra_in at *; omega)) (by first | omega | (unfold ra_in at *; omega)) (Nat.lt_succ_self _))
theorem lp_56_4 {n : Nat} {f : Nat → Int32} {d : Nat}  {σ : ra_V}  : ∀ (nn : Nat) (v1 : Int) (v2 : Int) (hv1 : ra_in v1) (hv2_0 : ra_in v2) (hm : ((ra_g σ (172) 2 - v2 : Int)).toNat < nn), ra_P (g_Gs n f) g_sh 0 (d + 1) g_m_X1_largest 4 [some (.index (172)), some (ra_I v1), some (ra_I v2)] [] σ (fun r s => rI r ∧ s = σ) := by
  intro nn
  induction nn with
  | zero => intro v1 v2 hv1 hv2_0 hm; exact absurd hm (Nat.not_lt_zero _)
  | succ nn ih =>
    intro v1 v2 hv1 hv2_0 hm
    have hb := ra_in_g σ (172) 2
    refine ra_load rfl rfl rfl rfl ?_
    refine ra_load rfl rfl rfl rfl ?_
    refine ra_getI rfl lk_1_18 (Nat.zero_le _) sh_172 rfl ?_
    refine ra_icge rfl rfl (by first | omega | (unfold ra_in at *; omega)) (ra_in_g _ _ _) (fun h1 => ?_) (fun h1 => ?_)
    · refine ra_load rfl rfl rfl rfl ?_
      exact ra_ireturn rfl rfl ⟨⟨_, hv1, rfl⟩, rfl⟩
    · refine ra_load rfl rfl rfl rfl ?_
      refine ra_load rfl rfl rfl rfl ?_
      refine ra_load rfl rfl rfl rfl ?_
      refine ra_cIp (sp_51 (by first | omega | (unfold ra_in at *; omega))) rfl (ct_51 rfl lk_1_53 (Or.inl rfl) sh_172 (Nat.le_of_ble_eq_true rfl)) (fun z3 hz3 => ?_)
      refine ra_max rfl lk_1_63 hv1 hz3 (Nat.le_of_ble_eq_true rfl) ?_
      refine ra_gen (fun z4 hz4 => ?_)
      refine ra_store (L' := [_, _, _]) rfl rfl rfl (Nat.le_of_ble_eq_true rfl) rfl ?_
      refine ra_iinc (L' := [_, _, _]) rfl rfl (Nat.le_of_ble_eq_true rfl) rfl ?_
      refine ra_goto rfl rfl ?_
      exact ra_weak (by repeat' constructor) (ih z4 (v2 + 1) hz4 (by first | omega | (unfold ra_in at *; omega)) (by first | omega | (unfold ra_in at *; omega)))
theorem sp_56 {n : Nat} {f : Nat → Int32} {d : Nat}  {σ : ra_V}  : ra_C (g_Gs n f) g_sh 0 (d + 2) 56 [.index (172)] σ (fun r s => rI r ∧ s = σ) := by
  refine ra_enter (nn := 2) mt_56 rfl (Nat.le_of_ble_eq_true rfl) rfl (fun h => absurd h (by decide +kernel)) ?_
  refine ra_iconst rfl ?_
  refine ra_store (L' := [_, _, _]) rfl rfl rfl (Nat.le_of_ble_eq_true rfl) rfl ?_
  refine ra_iconst rfl ?_
  refine ra_store (L' := [_, _, _]) rfl rfl rfl (Nat.le_of_ble_eq_true rfl) rfl ?_
  exact ra_weak (by repeat' constructor) (lp_56_4  _ (0) (0) (by first | omega | (unfold ra_in at *; omega)) (by first | omega | (unfold ra_in at *; omega)) (Nat.lt_succ_self _))
theorem lp_57_4 {n : Nat} {f : Nat → Int32} {d : Nat}  {σ : ra_V}  : ∀ (nn : Nat) (v1 : Int) (v2 : Int) (hv1 : ra_in v1) (hv2_0 : ra_in v2) (hm : ((ra_g σ (172) 2 - v2 : Int)).toNat < nn), ra_P (g_Gs n f) g_sh 0 (d + 3) g_m_X1_mostRoom 4 [some (.index (172)), some (ra_I v1), some (ra_I v2)] [] σ (fun r s => rI r ∧ s = σ) := by
  intro nn
  induction nn with
  | zero => intro v1 v2 hv1 hv2_0 hm; exact absurd hm (Nat.not_lt_zero _)
  | succ nn ih =>
    intro v1 v2 hv1 hv2_0 hm
    have hb := ra_in_g σ (172) 2
    refine ra_load rfl rfl rfl rfl ?_
    refine ra_load rfl rfl rfl rfl ?_
    refine ra_getI rfl lk_1_18 (Nat.zero_le _) sh_172 rfl ?_
    refine ra_icge rfl rfl (by first | omega | (unfold ra_in at *; omega)) (ra_in_g _ _ _) (fun h1 => ?_) (fun h1 => ?_)
    · refine ra_load rfl rfl rfl rfl ?_
      exact ra_ireturn rfl rfl ⟨⟨_, hv1, rfl⟩, rfl⟩
    · refine ra_load rfl rfl rfl rfl ?_
      refine ra_load rfl rfl rfl rfl ?_
      refine ra_load rfl rfl rfl rfl ?_
      refine ra_cIp (sp_53 (by first | omega | (unfold ra_in at *; omega))) rfl (ct_53 rfl lk_1_60 (Or.inl rfl) sh_172 (Nat.le_of_ble_eq_true rfl)) (fun z3 hz3 => ?_)
      refine ra_max rfl lk_1_63 hv1 hz3 (Nat.le_of_ble_eq_true rfl) ?_
      refine ra_gen (fun z4 hz4 => ?_)
      refine ra_store (L' := [_, _, _]) rfl rfl rfl (Nat.le_of_ble_eq_true rfl) rfl ?_
      refine ra_iinc (L' := [_, _, _]) rfl rfl (Nat.le_of_ble_eq_true rfl) rfl ?_
      refine ra_goto rfl rfl ?_
      exact ra_weak (by repeat' constructor) (ih z4 (v2 + 1) hz4 (by first | omega | (unfold ra_in at *; omega)) (by first | omega | (unfold ra_in at *; omega)))
theorem sp_57 {n : Nat} {f : Nat → Int32} {d : Nat}  {σ : ra_V}  : ra_C (g_Gs n f) g_sh 0 (d + 4) 57 [.index (172)] σ (fun r s => rI r ∧ s = σ) := by
  refine ra_enter (nn := 2) mt_57 rfl (Nat.le_of_ble_eq_true rfl) rfl (fun h => absurd h (by decide +kernel)) ?_
  refine ra_iconst rfl ?_
  refine ra_store (L' := [_, _, _]) rfl rfl rfl (Nat.le_of_ble_eq_true rfl) rfl ?_
  refine ra_iconst rfl ?_
  refine ra_store (L' := [_, _, _]) rfl rfl rfl (Nat.le_of_ble_eq_true rfl) rfl ?_
  exact ra_weak (by repeat' constructor) (lp_57_4  _ (0) (0) (by first | omega | (unfold ra_in at *; omega)) (by first | omega | (unfold ra_in at *; omega)) (Nat.lt_succ_self _))
theorem lp_58_2 {n : Nat} {f : Nat → Int32} {d : Nat} {x0 : Int} {σ : ra_V} (hx0 : ra_in x0) : ∀ (nn : Nat) (v2 : Int) (hv2_0 : ra_in v2) (hm : ((ra_g σ (172) 2 - v2 : Int)).toNat < nn), ra_P (g_Gs n f) g_sh 0 (d + 1) g_m_X1_holding 2 [some (.index (172)), some (ra_I x0), some (ra_I v2)] [] σ (fun r s => rI r ∧ s = σ) := by
  intro nn
  induction nn with
  | zero => intro v2 hv2_0 hm; exact absurd hm (Nat.not_lt_zero _)
  | succ nn ih =>
    intro v2 hv2_0 hm
    have hb := ra_in_g σ (172) 2
    refine ra_load rfl rfl rfl rfl ?_
    refine ra_load rfl rfl rfl rfl ?_
    refine ra_getI rfl lk_1_18 (Nat.zero_le _) sh_172 rfl ?_
    refine ra_icge rfl rfl (by first | omega | (unfold ra_in at *; omega)) (ra_in_g _ _ _) (fun h1 => ?_) (fun h1 => ?_)
    · refine ra_iconst rfl ?_
      exact ra_ireturn rfl rfl ⟨⟨_, (by first | omega | (unfold ra_in at *; omega)), rfl⟩, rfl⟩
    · refine ra_load rfl rfl rfl rfl ?_
      refine ra_load rfl rfl rfl rfl ?_
      refine ra_cIp (sp_50 (by first | omega | (unfold ra_in at *; omega))) rfl (ct_50 rfl lk_1_46 (Or.inl rfl) sh_172 (Nat.le_of_ble_eq_true rfl)) (fun z3 hz3 => ?_)
      refine ra_i2l rfl hz3 ?_
      refine ra_load rfl rfl rfl rfl ?_
      refine ra_load rfl rfl rfl rfl ?_
      refine ra_cIp (sp_51 (by first | omega | (unfold ra_in at *; omega))) rfl (ct_51 rfl lk_1_53 (Or.inl rfl) sh_172 (Nat.le_of_ble_eq_true rfl)) (fun z5 hz5 => ?_)
      refine ra_i2l rfl hz5 ?_
      refine ra_load rfl rfl rfl rfl ?_
      refine ra_i2l rfl hx0 ?_
      refine ra_lconst1 rfl ?_
      refine ra_cBp (sp_185 hz3 hz5 hx0 (by first | omega | (unfold ra_in at *; omega))) rfl (ct_185 rfl lk_1_68 (Or.inr ⟨rfl, rfl⟩) (Nat.le_of_ble_eq_true rfl)) (fun z7 hz7 => ?_)
      refine ra_ifeq rfl rfl (ra_in01 hz7) (fun h8 => ?_) (fun h8 => ?_)
      · refine ra_iinc (L' := [_, _, _]) rfl rfl (Nat.le_of_ble_eq_true rfl) rfl ?_
        refine ra_goto rfl rfl ?_
        exact ra_weak (by repeat' constructor) (ih (v2 + 1) (by first | omega | (unfold ra_in at *; omega)) (by first | omega | (unfold ra_in at *; omega)))
      · refine ra_load rfl rfl rfl rfl ?_
        exact ra_ireturn rfl rfl ⟨⟨_, (by first | omega | (unfold ra_in at *; omega)), rfl⟩, rfl⟩
theorem sp_58 {n : Nat} {f : Nat → Int32} {d : Nat} {x0 : Int} {σ : ra_V} (hx0 : ra_in x0) : ra_C (g_Gs n f) g_sh 0 (d + 2) 58 [.index (172), ra_I x0] σ (fun r s => rI r ∧ s = σ) := by
  refine ra_enter (nn := 1) mt_58 rfl (Nat.le_of_ble_eq_true rfl) rfl (fun h => absurd h (by decide +kernel)) ?_
  refine ra_iconst rfl ?_
  refine ra_store (L' := [_, _, _]) rfl rfl rfl (Nat.le_of_ble_eq_true rfl) rfl ?_
  exact ra_weak (by repeat' constructor) (lp_58_2 hx0 _ (0) (by first | omega | (unfold ra_in at *; omega)) (Nat.lt_succ_self _))
theorem sp_60 {n : Nat} {f : Nat → Int32} {d : Nat} {x0 : Int} {x1 : Int} {x2 : Int} {σ : ra_V} (hx0 : ra_in x0) (hx1 : ra_in x1) (hx2 : ra_in x2) : ra_C (g_Gs n f) g_sh 0 (d + 4) 60 [.index (172), ra_I x0, ra_I x1, ra_I x2] σ (fun r s => rB r ∧ s = σ) := by
  refine ra_enter (nn := 0) mt_60 rfl (Nat.le_of_ble_eq_true rfl) rfl (fun h => absurd h (by decide +kernel)) ?_
  refine ra_load rfl rfl rfl rfl ?_
  refine ra_iconst rfl ?_
  refine ra_icne rfl rfl hx2 (by first | omega | (unfold ra_in at *; omega)) (fun h1 => ?_) (fun h1 => ?_)
  · refine ra_load rfl rfl rfl rfl ?_
    refine ra_iconst rfl ?_
    refine ra_icne rfl rfl hx2 (by first | omega | (unfold ra_in at *; omega)) (fun h2 => ?_) (fun h2 => ?_)
    · refine ra_iconst rfl ?_
      exact ra_ireturn rfl (ra_okB (Or.inl rfl)) ⟨⟨_, (Or.inl rfl), rfl⟩, rfl⟩
    · refine ra_load rfl rfl rfl rfl ?_
      refine ra_load rfl rfl rfl rfl ?_
      refine ra_cIp (sp_53 hx0) rfl (ct_53 rfl lk_1_60 (Or.inl rfl) sh_172 (Nat.le_of_ble_eq_true rfl)) (fun z4 hz4 => ?_)
      refine ra_load rfl rfl rfl rfl ?_
      refine ra_load rfl rfl rfl rfl ?_
      refine ra_cIp (sp_53 hx1) rfl (ct_53 rfl lk_1_60 (Or.inl rfl) sh_172 (Nat.le_of_ble_eq_true rfl)) (fun z6 hz6 => ?_)
      refine ra_icle rfl rfl hz4 hz6 (fun h7 => ?_) (fun h7 => ?_)
      · refine ra_iconst rfl ?_
        exact ra_ireturn rfl (ra_okB (Or.inl rfl)) ⟨⟨_, (Or.inl rfl), rfl⟩, rfl⟩
      · refine ra_iconst rfl ?_
        refine ra_goto rfl rfl ?_
        exact ra_ireturn rfl (ra_okB (Or.inr rfl)) ⟨⟨_, (Or.inr rfl), rfl⟩, rfl⟩
  · refine ra_load rfl rfl rfl rfl ?_
    refine ra_load rfl rfl rfl rfl ?_
    refine ra_cIp (sp_53 hx0) rfl (ct_53 rfl lk_1_60 (Or.inl rfl) sh_172 (Nat.le_of_ble_eq_true rfl)) (fun z9 hz9 => ?_)
    refine ra_load rfl rfl rfl rfl ?_
    refine ra_load rfl rfl rfl rfl ?_
    refine ra_cIp (sp_53 hx1) rfl (ct_53 rfl lk_1_60 (Or.inl rfl) sh_172 (Nat.le_of_ble_eq_true rfl)) (fun z11 hz11 => ?_)
    refine ra_iclt rfl rfl hz9 hz11 (fun h12 => ?_) (fun h12 => ?_)
    · refine ra_iconst rfl ?_
      refine ra_goto rfl rfl ?_
      exact ra_ireturn rfl (ra_okB (Or.inr rfl)) ⟨⟨_, (Or.inr rfl), rfl⟩, rfl⟩
    · refine ra_load rfl rfl rfl rfl ?_
      refine ra_iconst rfl ?_
      refine ra_icne rfl rfl hx2 (by first | omega | (unfold ra_in at *; omega)) (fun h13 => ?_) (fun h13 => ?_)
      · refine ra_iconst rfl ?_
        exact ra_ireturn rfl (ra_okB (Or.inl rfl)) ⟨⟨_, (Or.inl rfl), rfl⟩, rfl⟩
      · refine ra_load rfl rfl rfl rfl ?_
        refine ra_load rfl rfl rfl rfl ?_
        refine ra_cIp (sp_53 hx0) rfl (ct_53 rfl lk_1_60 (Or.inl rfl) sh_172 (Nat.le_of_ble_eq_true rfl)) (fun z15 hz15 => ?_)
        refine ra_load rfl rfl rfl rfl ?_
        refine ra_load rfl rfl rfl rfl ?_
        refine ra_cIp (sp_53 hx1) rfl (ct_53 rfl lk_1_60 (Or.inl rfl) sh_172 (Nat.le_of_ble_eq_true rfl)) (fun z17 hz17 => ?_)
        refine ra_icle rfl rfl hz15 hz17 (fun h18 => ?_) (fun h18 => ?_)
        · refine ra_iconst rfl ?_
          exact ra_ireturn rfl (ra_okB (Or.inl rfl)) ⟨⟨_, (Or.inl rfl), rfl⟩, rfl⟩
        · refine ra_iconst rfl ?_
          refine ra_goto rfl rfl ?_
          exact ra_ireturn rfl (ra_okB (Or.inr rfl)) ⟨⟨_, (Or.inr rfl), rfl⟩, rfl⟩
theorem lp_59_5 {n : Nat} {f : Nat → Int32} {d : Nat} {x0 : Int} {x1 : Int} {σ : ra_V} (hx0 : ra_in x0) (hx1 : ra_in x1) : ∀ (nn : Nat) (v3 : Int) (v4 : Int) (hv3 : ra_in v3) (hv4_0 : ra_in v4) (hm : ((ra_g σ (172) 2 - v4 : Int)).toNat < nn), ra_P (g_Gs n f) g_sh 0 (d + 4) g_m_X1_startFor 5 [some (.index (172)), some (ra_I x0), some (ra_I x1), some (ra_I v3), some (ra_I v4)] [] σ (fun r s => rI r ∧ s = σ) := by
  intro nn
  induction nn with
  | zero => intro v3 v4 hv3 hv4_0 hm; exact absurd hm (Nat.not_lt_zero _)
  | succ nn ih =>
    intro v3 v4 hv3 hv4_0 hm
    have hb := ra_in_g σ (172) 2
    refine ra_load rfl rfl rfl rfl ?_
    refine ra_ifle rfl rfl hx0 (fun h1 => ?_) (fun h1 => ?_)
    · refine ra_load rfl rfl rfl rfl ?_
      refine ra_iconst rfl ?_
      refine ra_icne rfl rfl hv3 (by first | omega | (unfold ra_in at *; omega)) (fun h2 => ?_) (fun h2 => ?_)
      · refine ra_load rfl rfl rfl rfl ?_
        refine ra_load rfl rfl rfl rfl ?_
        refine ra_cIp (sp_52 hv3) rfl (ct_52 rfl lk_1_76 (Or.inl rfl) sh_172 (Nat.le_of_ble_eq_true rfl)) (fun z4 hz4 => ?_)
        exact ra_ireturn rfl rfl ⟨⟨_, hz4, rfl⟩, rfl⟩
      · refine ra_iconst rfl ?_
        refine ra_goto rfl rfl ?_
        exact ra_ireturn rfl rfl ⟨⟨_, (by first | omega | (unfold ra_in at *; omega)), rfl⟩, rfl⟩
    · refine ra_load rfl rfl rfl rfl ?_
      refine ra_load rfl rfl rfl rfl ?_
      refine ra_getI rfl lk_1_18 (Nat.zero_le _) sh_172 rfl ?_
      refine ra_icge rfl rfl (by first | omega | (unfold ra_in at *; omega)) (ra_in_g _ _ _) (fun h5 => ?_) (fun h5 => ?_)
      · refine ra_load rfl rfl rfl rfl ?_
        refine ra_iconst rfl ?_
        refine ra_icne rfl rfl hv3 (by first | omega | (unfold ra_in at *; omega)) (fun h6 => ?_) (fun h6 => ?_)
        · refine ra_load rfl rfl rfl rfl ?_
          refine ra_load rfl rfl rfl rfl ?_
          refine ra_cIp (sp_52 hv3) rfl (ct_52 rfl lk_1_76 (Or.inl rfl) sh_172 (Nat.le_of_ble_eq_true rfl)) (fun z8 hz8 => ?_)
          exact ra_ireturn rfl rfl ⟨⟨_, hz8, rfl⟩, rfl⟩
        · refine ra_iconst rfl ?_
          refine ra_goto rfl rfl ?_
          exact ra_ireturn rfl rfl ⟨⟨_, (by first | omega | (unfold ra_in at *; omega)), rfl⟩, rfl⟩
      · refine ra_load rfl rfl rfl rfl ?_
        refine ra_load rfl rfl rfl rfl ?_
        refine ra_cIp (sp_53 (by first | omega | (unfold ra_in at *; omega))) rfl (ct_53 rfl lk_1_60 (Or.inl rfl) sh_172 (Nat.le_of_ble_eq_true rfl)) (fun z10 hz10 => ?_)
        refine ra_load rfl rfl rfl rfl ?_
        refine ra_iclt rfl rfl hz10 hx0 (fun h11 => ?_) (fun h11 => ?_)
        · refine ra_iinc (L' := [_, _, _, _, _]) rfl rfl (Nat.le_of_ble_eq_true rfl) rfl ?_
          refine ra_goto rfl rfl ?_
          exact ra_weak (by repeat' constructor) (ih v3 (v4 + 1) hv3 (by first | omega | (unfold ra_in at *; omega)) (by first | omega | (unfold ra_in at *; omega)))
        · refine ra_load rfl rfl rfl rfl ?_
          refine ra_iconst rfl ?_
          refine ra_iceq rfl rfl hv3 (by first | omega | (unfold ra_in at *; omega)) (fun h12 => ?_) (fun h12 => ?_)
          · refine ra_load rfl rfl rfl rfl ?_
            refine ra_store (L' := [_, _, _, _, _]) rfl rfl rfl (Nat.le_of_ble_eq_true rfl) rfl ?_
            refine ra_iinc (L' := [_, _, _, _, _]) rfl rfl (Nat.le_of_ble_eq_true rfl) rfl ?_
            refine ra_goto rfl rfl ?_
            exact ra_weak (by repeat' constructor) (ih v4 (v4 + 1) (by first | omega | (unfold ra_in at *; omega)) (by first | omega | (unfold ra_in at *; omega)) (by first | omega | (unfold ra_in at *; omega)))
          · refine ra_load rfl rfl rfl rfl ?_
            refine ra_load rfl rfl rfl rfl ?_
            refine ra_load rfl rfl rfl rfl ?_
            refine ra_load rfl rfl rfl rfl ?_
            refine ra_cBp (sp_60 (by first | omega | (unfold ra_in at *; omega)) hv3 hx1) rfl (ct_60 rfl lk_1_72 (Or.inl rfl) sh_172 (Nat.le_of_ble_eq_true rfl)) (fun z14 hz14 => ?_)
            refine ra_ifeq rfl rfl (ra_in01 hz14) (fun h15 => ?_) (fun h15 => ?_)
            · refine ra_iinc (L' := [_, _, _, _, _]) rfl rfl (Nat.le_of_ble_eq_true rfl) rfl ?_
              refine ra_goto rfl rfl ?_
              exact ra_weak (by repeat' constructor) (ih v3 (v4 + 1) hv3 (by first | omega | (unfold ra_in at *; omega)) (by first | omega | (unfold ra_in at *; omega)))
            · refine ra_load rfl rfl rfl rfl ?_
              refine ra_store (L' := [_, _, _, _, _]) rfl rfl rfl (Nat.le_of_ble_eq_true rfl) rfl ?_
              refine ra_iinc (L' := [_, _, _, _, _]) rfl rfl (Nat.le_of_ble_eq_true rfl) rfl ?_
              refine ra_goto rfl rfl ?_
              exact ra_weak (by repeat' constructor) (ih v4 (v4 + 1) (by first | omega | (unfold ra_in at *; omega)) (by first | omega | (unfold ra_in at *; omega)) (by first | omega | (unfold ra_in at *; omega)))
theorem sp_59 {n : Nat} {f : Nat → Int32} {d : Nat} {x0 : Int} {x1 : Int} {σ : ra_V} (hx0 : ra_in x0) (hx1 : ra_in x1) : ra_C (g_Gs n f) g_sh 0 (d + 5) 59 [.index (172), ra_I x0, ra_I x1] σ (fun r s => rI r ∧ s = σ) := by
  refine ra_enter (nn := 2) mt_59 rfl (Nat.le_of_ble_eq_true rfl) rfl (fun h => absurd h (by decide +kernel)) ?_
  refine ra_iconst rfl ?_
  refine ra_store (L' := [_, _, _, _, _]) rfl rfl rfl (Nat.le_of_ble_eq_true rfl) rfl ?_
  refine ra_iconst rfl ?_
  refine ra_store (L' := [_, _, _, _, _]) rfl rfl rfl (Nat.le_of_ble_eq_true rfl) rfl ?_
  exact ra_weak (by repeat' constructor) (lp_59_5 hx0 hx1 _ (-1) (0) (by first | omega | (unfold ra_in at *; omega)) (by first | omega | (unfold ra_in at *; omega)) (Nat.lt_succ_self _))
theorem sp_62 {n : Nat} {f : Nat → Int32} {d : Nat} {E0 : Nat} {σ : ra_V} (hE0 : isD E0) (hci : CI σ) : ra_C (g_Gs n f) g_sh 0 (d + 3) 62 [.index (40), .index (E0)] σ (fun r s => rV r ∧ Fr (40) (172) σ s ∧ CI s) := by
  refine ra_enter (nn := 0) mt_62 rfl (Nat.le_of_ble_eq_true rfl) rfl (fun h => absurd h (by decide +kernel)) ?_
  have hci0 := hci
  unfold CI at hci0
  obtain ⟨hc1, hc2⟩ := hci0
  refine ra_load rfl rfl rfl rfl ?_
  refine ra_load rfl rfl rfl rfl ?_
  refine ra_getI rfl lk_2_18 (Nat.zero_le _) sh_40 rfl ?_
  refine ra_iconst rfl ?_
  refine ra_iadd rfl ?_
  refine ra_load rfl rfl rfl rfl ?_
  refine ra_getR rfl lk_2_11 (Nat.zero_le _) sh_40 rfl ?_
  refine ra_alen rfl sh_41 rfl ?_
  refine ra_icge rfl rfl (by first | omega | (unfold ra_in at *; omega)) (by first | omega | (unfold ra_in at *; omega)) (fun h1 => ?_) (fun h1 => ?_)
  · refine ra_iconst rfl ?_
    refine ra_putI rfl lk_2_18 (Nat.zero_le _) sh_40 rfl rfl ?_
    refine ra_newU (by first | omega | (unfold ra_in at *; omega)) (fun s2 hs2 hp3 hp3o => ?_)
    have hF4 := Fr_tr (lo := 40) (hi := 172) Fr_rf hs2 (by omega)
    refine ra_load rfl rfl rfl rfl ?_
    refine ra_getR rfl lk_2_11 (Nat.zero_le _) sh_40 rfl ?_
    refine ra_load rfl rfl rfl rfl ?_
    refine ra_getI rfl lk_2_18 (Nat.zero_le _) sh_40 rfl ?_
    refine ra_aaload rfl sh_41 rfl (by decide) (by first | omega | (unfold ra_in at *; omega)) (by first | omega | (unfold ra_in at *; omega)) (sh_past (by first | omega | (unfold ra_in at *; omega)) (by first | omega | (unfold ra_in at *; omega))) rfl ?_
    have hi5 : isD (42 + 13 * (ra_g s2 (40) 1).toNat) := isD_h (by first | omega | (unfold ra_in at *; omega))
    refine ra_load rfl rfl rfl rfl ?_
    refine ra_cV (sp_2 hi5 hE0) rfl (ct_2 rfl lk_2_22 (Or.inl rfl) (sh_D hi5) (Nat.le_of_ble_eq_true rfl)) (fun s6 hs6 => ?_)
    have hF7 := Fr_tr (lo := 40) (hi := 172) hF4 hs6 (by omega)
    have hk8 : s6 (40) = s2 (40) := (hs6 (40) (by omega))
    refine ra_load rfl rfl rfl rfl ?_
    refine ra_load rfl rfl rfl rfl ?_
    refine ra_getI rfl lk_2_26 (Nat.zero_le _) sh_40 rfl ?_
    refine ra_gen (fun z9 hz9 => ?_)
    refine ra_iconst rfl ?_
    refine ra_iadd rfl ?_
    refine ra_gen (fun z10 hz10 => ?_)
    refine ra_bipush rfl (by decide) ?_
    refine ra_min rfl lk_2_29 hz10 (by first | omega | (unfold ra_in at *; omega)) (Nat.le_of_ble_eq_true rfl) ?_
    refine ra_gen (fun z11 hz11 => ?_)
    refine ra_putI rfl lk_2_26 (Nat.zero_le _) sh_40 rfl rfl ?_
    refine ra_newU hz11 (fun s12 hs12 hp13 hp13o => ?_)
    have hp13_1 := hp13o 1 (by decide)
    rw [ra_gk hk8] at hp13_1
    have hF14 := Fr_tr (lo := 40) (hi := 172) hF7 hs12 (by omega)
    exact ra_return rfl rfl ⟨rfl, ⟨hF14, by unfold CI; constructor <;> omega⟩⟩
  · refine ra_load rfl rfl rfl rfl ?_
    refine ra_getI rfl lk_2_18 (Nat.zero_le _) sh_40 rfl ?_
    refine ra_iconst rfl ?_
    refine ra_iadd rfl ?_
    refine ra_goto rfl rfl ?_
    refine ra_putI rfl lk_2_18 (Nat.zero_le _) sh_40 rfl rfl ?_
    refine ra_newU (by first | omega | (unfold ra_in at *; omega)) (fun s15 hs15 hp16 hp16o => ?_)
    have hF17 := Fr_tr (lo := 40) (hi := 172) Fr_rf hs15 (by omega)
    refine ra_load rfl rfl rfl rfl ?_
    refine ra_getR rfl lk_2_11 (Nat.zero_le _) sh_40 rfl ?_
    refine ra_load rfl rfl rfl rfl ?_
    refine ra_getI rfl lk_2_18 (Nat.zero_le _) sh_40 rfl ?_
    refine ra_aaload rfl sh_41 rfl (by decide) (by first | omega | (unfold ra_in at *; omega)) (by first | omega | (unfold ra_in at *; omega)) (sh_past (by first | omega | (unfold ra_in at *; omega)) (by first | omega | (unfold ra_in at *; omega))) rfl ?_
    have hi18 : isD (42 + 13 * (ra_g s15 (40) 1).toNat) := isD_h (by first | omega | (unfold ra_in at *; omega))
    refine ra_load rfl rfl rfl rfl ?_
    refine ra_cV (sp_2 hi18 hE0) rfl (ct_2 rfl lk_2_22 (Or.inl rfl) (sh_D hi18) (Nat.le_of_ble_eq_true rfl)) (fun s19 hs19 => ?_)
    have hF20 := Fr_tr (lo := 40) (hi := 172) hF17 hs19 (by omega)
    have hk21 : s19 (40) = s15 (40) := (hs19 (40) (by omega))
    refine ra_load rfl rfl rfl rfl ?_
    refine ra_load rfl rfl rfl rfl ?_
    refine ra_getI rfl lk_2_26 (Nat.zero_le _) sh_40 rfl ?_
    refine ra_gen (fun z22 hz22 => ?_)
    refine ra_iconst rfl ?_
    refine ra_iadd rfl ?_
    refine ra_gen (fun z23 hz23 => ?_)
    refine ra_bipush rfl (by decide) ?_
    refine ra_min rfl lk_2_29 hz23 (by first | omega | (unfold ra_in at *; omega)) (Nat.le_of_ble_eq_true rfl) ?_
    refine ra_gen (fun z24 hz24 => ?_)
    refine ra_putI rfl lk_2_26 (Nat.zero_le _) sh_40 rfl rfl ?_
    refine ra_newU hz24 (fun s25 hs25 hp26 hp26o => ?_)
    have hp26_1 := hp26o 1 (by decide)
    rw [ra_gk hk21] at hp26_1
    have hF27 := Fr_tr (lo := 40) (hi := 172) hF20 hs25 (by omega)
    exact ra_return rfl rfl ⟨rfl, ⟨hF27, by unfold CI; constructor <;> omega⟩⟩
theorem sp_63 {n : Nat} {f : Nat → Int32} {d : Nat} {E0 : Nat} {σ : ra_V} (hE0 : isD E0) (hq : E0 = 1) (hci : CI σ) : ra_C (g_Gs n f) g_sh 0 (d + 3) 63 [.index (40), .index (E0)] σ (fun r s => rB r ∧ Fr (1) (172) σ s ∧ CI s) := by
  refine ra_enter (nn := 0) mt_63 rfl (Nat.le_of_ble_eq_true rfl) rfl (fun h => absurd h (by decide +kernel)) ?_
  have hci0 := hci
  unfold CI at hci0
  obtain ⟨hc1, hc2⟩ := hci0
  refine ra_load rfl rfl rfl rfl ?_
  refine ra_getI rfl lk_2_26 (Nat.zero_le _) sh_40 rfl ?_
  refine ra_gen (fun z1 hz1 => ?_)
  refine ra_iconst rfl ?_
  refine ra_iclt rfl rfl hz1 (by first | omega | (unfold ra_in at *; omega)) (fun h2 => ?_) (fun h2 => ?_)
  · refine ra_iconst rfl ?_
    exact ra_ireturn rfl (ra_okB (Or.inl rfl)) ⟨⟨_, (Or.inl rfl), rfl⟩, ⟨Fr_rf, by unfold CI; constructor <;> omega⟩⟩
  · refine ra_load rfl rfl rfl rfl ?_
    refine ra_getI rfl lk_2_18 (Nat.zero_le _) sh_40 rfl ?_
    refine ra_iflt rfl rfl (ra_in_g _ _ _) (fun h3 => ?_) (fun h3 => ?_)
    · refine ra_iconst rfl ?_
      exact ra_ireturn rfl (ra_okB (Or.inl rfl)) ⟨⟨_, (Or.inl rfl), rfl⟩, ⟨Fr_rf, by unfold CI; constructor <;> omega⟩⟩
    · refine ra_load rfl rfl rfl rfl ?_
      refine ra_getI rfl lk_2_18 (Nat.zero_le _) sh_40 rfl ?_
      refine ra_load rfl rfl rfl rfl ?_
      refine ra_getR rfl lk_2_11 (Nat.zero_le _) sh_40 rfl ?_
      refine ra_alen rfl sh_41 rfl ?_
      refine ra_iclt rfl rfl (ra_in_g _ _ _) (by first | omega | (unfold ra_in at *; omega)) (fun h4 => ?_) (fun h4 => ?_)
      · refine ra_load rfl rfl rfl rfl ?_
        refine ra_load rfl rfl rfl rfl ?_
        refine ra_getR rfl lk_2_11 (Nat.zero_le _) sh_40 rfl ?_
        refine ra_load rfl rfl rfl rfl ?_
        refine ra_getI rfl lk_2_18 (Nat.zero_le _) sh_40 rfl ?_
        refine ra_aaload rfl sh_41 rfl (by decide) (by first | omega | (unfold ra_in at *; omega)) (by first | omega | (unfold ra_in at *; omega)) (sh_past (by first | omega | (unfold ra_in at *; omega)) (by first | omega | (unfold ra_in at *; omega))) rfl ?_
        have hi5 : isD (42 + 13 * (ra_g σ (40) 1).toNat) := isD_h (by first | omega | (unfold ra_in at *; omega))
        refine ra_cV (sp_2 hE0 hi5) rfl (ct_2 rfl lk_2_22 (Or.inl rfl) (sh_D hE0) (Nat.le_of_ble_eq_true rfl)) (fun s6 hs6 => ?_)
        have hF7 := Fr_tr (lo := 1) (hi := 172) Fr_rf hs6 (by omega)
        have hk8 : s6 (40) = σ (40) := (hs6 (40) (by omega))
        refine ra_load rfl rfl rfl rfl ?_
        refine ra_load rfl rfl rfl rfl ?_
        refine ra_getI rfl lk_2_18 (Nat.zero_le _) sh_40 rfl ?_
        rw [ra_gk hk8]
        refine ra_ifle rfl rfl (ra_in_g _ _ _) (fun h9 => ?_) (fun h9 => ?_)
        · refine ra_load rfl rfl rfl rfl ?_
          refine ra_getR rfl lk_2_11 (Nat.zero_le _) sh_40 rfl ?_
          refine ra_alen rfl sh_41 rfl ?_
          refine ra_iconst rfl ?_
          refine ra_isub rfl ?_
          refine ra_putI rfl lk_2_18 (Nat.zero_le _) sh_40 rfl rfl ?_
          refine ra_newU (by first | omega | (unfold ra_in at *; omega)) (fun s10 hs10 hp11 hp11o => ?_)
          have hF12 := Fr_tr (lo := 1) (hi := 172) hF7 hs10 (by omega)
          refine ra_load rfl rfl rfl rfl ?_
          refine ra_dup rfl rfl ?_
          refine ra_getI rfl lk_2_26 (Nat.zero_le _) sh_40 rfl ?_
          refine ra_gen (fun z13 hz13 => ?_)
          refine ra_iconst rfl ?_
          refine ra_isub rfl ?_
          refine ra_gen (fun z14 hz14 => ?_)
          refine ra_putI rfl lk_2_26 (Nat.zero_le _) sh_40 rfl rfl ?_
          refine ra_newU hz14 (fun s15 hs15 hp16 hp16o => ?_)
          have hp16_1 := hp16o 1 (by decide)
          have hF17 := Fr_tr (lo := 1) (hi := 172) hF12 hs15 (by omega)
          refine ra_iconst rfl ?_
          exact ra_ireturn rfl (ra_okB (Or.inr rfl)) ⟨⟨_, (Or.inr rfl), rfl⟩, ⟨hF17, by unfold CI; constructor <;> omega⟩⟩
        · refine ra_load rfl rfl rfl rfl ?_
          refine ra_getI rfl lk_2_18 (Nat.zero_le _) sh_40 rfl ?_
          rw [ra_gk hk8]
          refine ra_iconst rfl ?_
          refine ra_isub rfl ?_
          refine ra_goto rfl rfl ?_
          refine ra_putI rfl lk_2_18 (Nat.zero_le _) sh_40 rfl rfl ?_
          refine ra_newU (by first | omega | (unfold ra_in at *; omega)) (fun s18 hs18 hp19 hp19o => ?_)
          have hF20 := Fr_tr (lo := 1) (hi := 172) hF7 hs18 (by omega)
          refine ra_load rfl rfl rfl rfl ?_
          refine ra_dup rfl rfl ?_
          refine ra_getI rfl lk_2_26 (Nat.zero_le _) sh_40 rfl ?_
          refine ra_gen (fun z21 hz21 => ?_)
          refine ra_iconst rfl ?_
          refine ra_isub rfl ?_
          refine ra_gen (fun z22 hz22 => ?_)
          refine ra_putI rfl lk_2_26 (Nat.zero_le _) sh_40 rfl rfl ?_
          refine ra_newU hz22 (fun s23 hs23 hp24 hp24o => ?_)
          have hp24_1 := hp24o 1 (by decide)
          have hF25 := Fr_tr (lo := 1) (hi := 172) hF20 hs23 (by omega)
          refine ra_iconst rfl ?_
          exact ra_ireturn rfl (ra_okB (Or.inr rfl)) ⟨⟨_, (Or.inr rfl), rfl⟩, ⟨hF25, by unfold CI; constructor <;> omega⟩⟩
      · refine ra_iconst rfl ?_
        exact ra_ireturn rfl (ra_okB (Or.inl rfl)) ⟨⟨_, (Or.inl rfl), rfl⟩, ⟨Fr_rf, by unfold CI; constructor <;> omega⟩⟩
theorem sp_64 {n : Nat} {f : Nat → Int32} {d : Nat}  {σ : ra_V} (hci : CI σ) : ra_C (g_Gs n f) g_sh 0 (d + 1) 64 [.index (40)] σ (fun r s => rV r ∧ Fr (40) (41) σ s ∧ CI s) := by
  refine ra_enter (nn := 0) mt_64 rfl (Nat.le_of_ble_eq_true rfl) rfl (fun h => absurd h (by decide +kernel)) ?_
  have hci0 := hci
  unfold CI at hci0
  obtain ⟨hc1, hc2⟩ := hci0
  refine ra_load rfl rfl rfl rfl ?_
  refine ra_iconst rfl ?_
  refine ra_putI rfl lk_2_26 (Nat.zero_le _) sh_40 rfl rfl ?_
  refine ra_newU (by first | omega | (unfold ra_in at *; omega)) (fun s1 hs1 hp2 hp2o => ?_)
  have hp2_1 := hp2o 1 (by decide)
  have hF3 := Fr_tr (lo := 40) (hi := 41) Fr_rf hs1 (by omega)
  exact ra_return rfl rfl ⟨rfl, ⟨hF3, by unfold CI; constructor <;> omega⟩⟩
theorem sp_85 {n : Nat} {f : Nat → Int32} {d : Nat}  {σ : ra_V}  : ra_C (g_Gs n f) g_sh 0 (d + 1) 85 [.index (177)] σ (fun r s => rV r ∧ Fr (177) (179) σ s) := by
  refine ra_enter (nn := 0) mt_85 rfl (Nat.le_of_ble_eq_true rfl) rfl (fun h => absurd h (by decide +kernel)) ?_
  refine ra_load rfl rfl rfl rfl ?_
  refine ra_iconst rfl ?_
  refine ra_putI rfl lk_4_13 (Nat.zero_le _) sh_177 rfl rfl ?_
  refine ra_new Fr_up (fun s1 hs1 => ?_)
  have hF2 := Fr_tr (lo := 177) (hi := 179) Fr_rf hs1 (by omega)
  exact ra_return rfl rfl ⟨rfl, hF2⟩
theorem sp_86 {n : Nat} {f : Nat → Int32} {d : Nat} {x0 : Int} {σ : ra_V} (hx0 : ra_in x0) : ra_C (g_Gs n f) g_sh 0 (d + 1) 86 [.index (177), ra_I x0] σ (fun r s => rV r ∧ Fr (177) (179) σ s) := by
  refine ra_enter (nn := 0) mt_86 rfl (Nat.le_of_ble_eq_true rfl) rfl (fun h => absurd h (by decide +kernel)) ?_
  refine ra_load rfl rfl rfl rfl ?_
  refine ra_getI rfl lk_4_13 (Nat.zero_le _) sh_177 rfl ?_
  refine ra_iflt rfl rfl (ra_in_g _ _ _) (fun h1 => ?_) (fun h1 => ?_)
  · exact ra_return rfl rfl ⟨rfl, Fr_rf⟩
  · refine ra_load rfl rfl rfl rfl ?_
    refine ra_getI rfl lk_4_13 (Nat.zero_le _) sh_177 rfl ?_
    refine ra_load rfl rfl rfl rfl ?_
    refine ra_getR rfl lk_4_9 (Nat.zero_le _) sh_177 rfl ?_
    refine ra_alen rfl sh_178 rfl ?_
    refine ra_icge rfl rfl (ra_in_g _ _ _) (by first | omega | (unfold ra_in at *; omega)) (fun h2 => ?_) (fun h2 => ?_)
    · exact ra_return rfl rfl ⟨rfl, Fr_rf⟩
    · refine ra_load rfl rfl rfl rfl ?_
      refine ra_getR rfl lk_4_9 (Nat.zero_le _) sh_177 rfl ?_
      refine ra_load rfl rfl rfl rfl ?_
      refine ra_getI rfl lk_4_13 (Nat.zero_le _) sh_177 rfl ?_
      refine ra_load rfl rfl rfl rfl ?_
      refine ra_iastore rfl sh_178 rfl (by decide) (by first | omega | (unfold ra_in at *; omega)) (by first | omega | (unfold ra_in at *; omega)) ?_
      refine ra_new Fr_up (fun s3 hs3 => ?_)
      have hF4 := Fr_tr (lo := 177) (hi := 179) Fr_rf hs3 (by omega)
      refine ra_load rfl rfl rfl rfl ?_
      refine ra_dup rfl rfl ?_
      refine ra_getI rfl lk_4_13 (Nat.zero_le _) sh_177 rfl ?_
      refine ra_iconst rfl ?_
      refine ra_iadd rfl ?_
      refine ra_gen (fun z5 hz5 => ?_)
      refine ra_putI rfl lk_4_13 (Nat.zero_le _) sh_177 rfl rfl ?_
      refine ra_new Fr_up (fun s6 hs6 => ?_)
      have hF7 := Fr_tr (lo := 177) (hi := 179) hF4 hs6 (by omega)
      exact ra_return rfl rfl ⟨rfl, hF7⟩
theorem sp_87 {n : Nat} {f : Nat → Int32} {d : Nat} {x0 : Int} {σ : ra_V} (hx0 : ra_in x0) : ra_C (g_Gs n f) g_sh 0 (d + 2) 87 [.index (177), ra_I x0] σ (fun r s => rV r ∧ Fr (177) (179) σ s) := by
  refine ra_enter (nn := 0) mt_87 rfl (Nat.le_of_ble_eq_true rfl) rfl (fun h => absurd h (by decide +kernel)) ?_
  refine ra_load rfl rfl rfl rfl ?_
  refine ra_bipush rfl (by decide) ?_
  refine ra_iclt rfl rfl hx0 (by first | omega | (unfold ra_in at *; omega)) (fun h1 => ?_) (fun h1 => ?_)
  · refine ra_load rfl rfl rfl rfl ?_
    refine ra_bipush rfl (by decide) ?_
    refine ra_iclt rfl rfl hx0 (by first | omega | (unfold ra_in at *; omega)) (fun h2 => ?_) (fun h2 => ?_)
    · refine ra_load rfl rfl rfl rfl ?_
      refine ra_bipush rfl (by decide) ?_
      refine ra_load rfl rfl rfl rfl ?_
      refine ra_bipush rfl (by decide) ?_
      refine ra_irem rfl hx0 (by first | omega | (unfold ra_in at *; omega)) (by omega) ?_
      refine ra_gen (fun z3 hz3 => ?_)
      refine ra_iadd rfl ?_
      refine ra_gen (fun z4 hz4 => ?_)
      refine ra_cV (sp_86 hz4) rfl (ct_86 rfl lk_4_17 (Or.inl rfl) sh_177 (Nat.le_of_ble_eq_true rfl)) (fun s5 hs5 => ?_)
      have hF6 := Fr_tr (lo := 177) (hi := 179) Fr_rf hs5 (by omega)
      exact ra_return rfl rfl ⟨rfl, hF6⟩
    · refine ra_load rfl rfl rfl rfl ?_
      refine ra_bipush rfl (by decide) ?_
      refine ra_load rfl rfl rfl rfl ?_
      refine ra_bipush rfl (by decide) ?_
      refine ra_idiv rfl hx0 (by first | omega | (unfold ra_in at *; omega)) (by omega) ?_
      refine ra_gen (fun z7 hz7 => ?_)
      refine ra_bipush rfl (by decide) ?_
      refine ra_irem rfl hz7 (by first | omega | (unfold ra_in at *; omega)) (by omega) ?_
      refine ra_gen (fun z8 hz8 => ?_)
      refine ra_iadd rfl ?_
      refine ra_gen (fun z9 hz9 => ?_)
      refine ra_cV (sp_86 hz9) rfl (ct_86 rfl lk_4_17 (Or.inl rfl) sh_177 (Nat.le_of_ble_eq_true rfl)) (fun s10 hs10 => ?_)
      have hF11 := Fr_tr (lo := 177) (hi := 179) Fr_rf hs10 (by omega)
      refine ra_load rfl rfl rfl rfl ?_
      refine ra_bipush rfl (by decide) ?_
      refine ra_load rfl rfl rfl rfl ?_
      refine ra_bipush rfl (by decide) ?_
      refine ra_irem rfl hx0 (by first | omega | (unfold ra_in at *; omega)) (by omega) ?_
      refine ra_gen (fun z12 hz12 => ?_)
      refine ra_iadd rfl ?_
      refine ra_gen (fun z13 hz13 => ?_)
      refine ra_cV (sp_86 hz13) rfl (ct_86 rfl lk_4_17 (Or.inl rfl) sh_177 (Nat.le_of_ble_eq_true rfl)) (fun s14 hs14 => ?_)
      have hF15 := Fr_tr (lo := 177) (hi := 179) hF11 hs14 (by omega)
      exact ra_return rfl rfl ⟨rfl, hF15⟩
  · refine ra_load rfl rfl rfl rfl ?_
    refine ra_bipush rfl (by decide) ?_
    refine ra_load rfl rfl rfl rfl ?_
    refine ra_bipush rfl (by decide) ?_
    refine ra_idiv rfl hx0 (by first | omega | (unfold ra_in at *; omega)) (by omega) ?_
    refine ra_gen (fun z16 hz16 => ?_)
    refine ra_bipush rfl (by decide) ?_
    refine ra_irem rfl hz16 (by first | omega | (unfold ra_in at *; omega)) (by omega) ?_
    refine ra_gen (fun z17 hz17 => ?_)
    refine ra_iadd rfl ?_
    refine ra_gen (fun z18 hz18 => ?_)
    refine ra_cV (sp_86 hz18) rfl (ct_86 rfl lk_4_17 (Or.inl rfl) sh_177 (Nat.le_of_ble_eq_true rfl)) (fun s19 hs19 => ?_)
    have hF20 := Fr_tr (lo := 177) (hi := 179) Fr_rf hs19 (by omega)
    refine ra_load rfl rfl rfl rfl ?_
    refine ra_bipush rfl (by decide) ?_
    refine ra_iclt rfl rfl hx0 (by first | omega | (unfold ra_in at *; omega)) (fun h21 => ?_) (fun h21 => ?_)
    · refine ra_load rfl rfl rfl rfl ?_
      refine ra_bipush rfl (by decide) ?_
      refine ra_load rfl rfl rfl rfl ?_
      refine ra_bipush rfl (by decide) ?_
      refine ra_irem rfl hx0 (by first | omega | (unfold ra_in at *; omega)) (by omega) ?_
      refine ra_gen (fun z22 hz22 => ?_)
      refine ra_iadd rfl ?_
      refine ra_gen (fun z23 hz23 => ?_)
      refine ra_cV (sp_86 hz23) rfl (ct_86 rfl lk_4_17 (Or.inl rfl) sh_177 (Nat.le_of_ble_eq_true rfl)) (fun s24 hs24 => ?_)
      have hF25 := Fr_tr (lo := 177) (hi := 179) hF20 hs24 (by omega)
      exact ra_return rfl rfl ⟨rfl, hF25⟩
    · refine ra_load rfl rfl rfl rfl ?_
      refine ra_bipush rfl (by decide) ?_
      refine ra_load rfl rfl rfl rfl ?_
      refine ra_bipush rfl (by decide) ?_
      refine ra_idiv rfl hx0 (by first | omega | (unfold ra_in at *; omega)) (by omega) ?_
      refine ra_gen (fun z26 hz26 => ?_)
      refine ra_bipush rfl (by decide) ?_
      refine ra_irem rfl hz26 (by first | omega | (unfold ra_in at *; omega)) (by omega) ?_
      refine ra_gen (fun z27 hz27 => ?_)
      refine ra_iadd rfl ?_
      refine ra_gen (fun z28 hz28 => ?_)
      refine ra_cV (sp_86 hz28) rfl (ct_86 rfl lk_4_17 (Or.inl rfl) sh_177 (Nat.le_of_ble_eq_true rfl)) (fun s29 hs29 => ?_)
      have hF30 := Fr_tr (lo := 177) (hi := 179) hF20 hs29 (by omega)
      refine ra_load rfl rfl rfl rfl ?_
      refine ra_bipush rfl (by decide) ?_
      refine ra_load rfl rfl rfl rfl ?_
      refine ra_bipush rfl (by decide) ?_
      refine ra_irem rfl hx0 (by first | omega | (unfold ra_in at *; omega)) (by omega) ?_
      refine ra_gen (fun z31 hz31 => ?_)
      refine ra_iadd rfl ?_
      refine ra_gen (fun z32 hz32 => ?_)
      refine ra_cV (sp_86 hz32) rfl (ct_86 rfl lk_4_17 (Or.inl rfl) sh_177 (Nat.le_of_ble_eq_true rfl)) (fun s33 hs33 => ?_)
      have hF34 := Fr_tr (lo := 177) (hi := 179) hF30 hs33 (by omega)
      exact ra_return rfl rfl ⟨rfl, hF34⟩
theorem sp_88 {n : Nat} {f : Nat → Int32} {d : Nat} {E0 i0 : Nat} {x1 : Int} {σ : ra_V} (hE0 : isD E0) (hi0 : i0 < 8) (hx1 : x1 = 0 ∨ x1 = 1) : ra_C (g_Gs n f) g_sh 0 (d + 3) 88 [.index (177), .index (E0 + 5 + i0), ra_I x1] σ (fun r s => rV r ∧ Fr (177) (179) σ s) := by
  refine ra_enter (nn := 0) mt_88 rfl (Nat.le_of_ble_eq_true rfl) rfl (fun h => absurd h (by decide +kernel)) ?_
  refine ra_load rfl rfl rfl rfl ?_
  refine ra_load rfl rfl rfl rfl ?_
  refine ra_getK rfl lk_4_21 (Nat.zero_le _) (sh_P hE0 hi0) rfl ?_
  refine ra_cV (sp_87 (by first | omega | (unfold ra_in at *; omega))) rfl (ct_87 rfl lk_4_26 (Or.inl rfl) sh_177 (Nat.le_of_ble_eq_true rfl)) (fun s1 hs1 => ?_)
  have hF2 := Fr_tr (lo := 177) (hi := 179) Fr_rf hs1 (by omega)
  refine ra_load rfl rfl rfl rfl ?_
  refine ra_bipush rfl (by decide) ?_
  refine ra_cV (sp_86 (by first | omega | (unfold ra_in at *; omega))) rfl (ct_86 rfl lk_4_17 (Or.inl rfl) sh_177 (Nat.le_of_ble_eq_true rfl)) (fun s3 hs3 => ?_)
  have hF4 := Fr_tr (lo := 177) (hi := 179) hF2 hs3 (by omega)
  refine ra_load rfl rfl rfl rfl ?_
  refine ra_load rfl rfl rfl rfl ?_
  refine ra_getI rfl lk_4_29 (Nat.zero_le _) (sh_P hE0 hi0) rfl ?_
  refine ra_gen (fun z5 hz5 => ?_)
  refine ra_cV (sp_87 hz5) rfl (ct_87 rfl lk_4_26 (Or.inl rfl) sh_177 (Nat.le_of_ble_eq_true rfl)) (fun s6 hs6 => ?_)
  have hF7 := Fr_tr (lo := 177) (hi := 179) hF4 hs6 (by omega)
  refine ra_load rfl rfl rfl rfl ?_
  refine ra_bipush rfl (by decide) ?_
  refine ra_cV (sp_86 (by first | omega | (unfold ra_in at *; omega))) rfl (ct_86 rfl lk_4_17 (Or.inl rfl) sh_177 (Nat.le_of_ble_eq_true rfl)) (fun s8 hs8 => ?_)
  have hF9 := Fr_tr (lo := 177) (hi := 179) hF7 hs8 (by omega)
  refine ra_load rfl rfl rfl rfl ?_
  refine ra_load rfl rfl rfl rfl ?_
  refine ra_getI rfl lk_4_32 (Nat.zero_le _) (sh_P hE0 hi0) rfl ?_
  refine ra_gen (fun z10 hz10 => ?_)
  refine ra_cV (sp_87 hz10) rfl (ct_87 rfl lk_4_26 (Or.inl rfl) sh_177 (Nat.le_of_ble_eq_true rfl)) (fun s11 hs11 => ?_)
  have hF12 := Fr_tr (lo := 177) (hi := 179) hF9 hs11 (by omega)
  refine ra_load rfl rfl rfl rfl ?_
  refine ra_bipush rfl (by decide) ?_
  refine ra_cV (sp_86 (by first | omega | (unfold ra_in at *; omega))) rfl (ct_86 rfl lk_4_17 (Or.inl rfl) sh_177 (Nat.le_of_ble_eq_true rfl)) (fun s13 hs13 => ?_)
  have hF14 := Fr_tr (lo := 177) (hi := 179) hF12 hs13 (by omega)
  refine ra_load rfl rfl rfl rfl ?_
  refine ra_getBw rfl lk_4_35 (Nat.zero_le _) (sh_P hE0 hi0) rfl (fun z15 hz15 => ?_)
  refine ra_ifeq rfl rfl (ra_in01 hz15) (fun h16 => ?_) (fun h16 => ?_)
  · refine ra_load rfl rfl rfl rfl ?_
    refine ra_ifeq rfl rfl (ra_in01 hx1) (fun h17 => ?_) (fun h17 => ?_)
    · exact ra_return rfl rfl ⟨rfl, hF14⟩
    · refine ra_load rfl rfl rfl rfl ?_
      refine ra_bipush rfl (by decide) ?_
      refine ra_cV (sp_86 (by first | omega | (unfold ra_in at *; omega))) rfl (ct_86 rfl lk_4_17 (Or.inl rfl) sh_177 (Nat.le_of_ble_eq_true rfl)) (fun s18 hs18 => ?_)
      have hF19 := Fr_tr (lo := 177) (hi := 179) hF14 hs18 (by omega)
      exact ra_return rfl rfl ⟨rfl, hF19⟩
  · refine ra_load rfl rfl rfl rfl ?_
    refine ra_bipush rfl (by decide) ?_
    refine ra_cV (sp_86 (by first | omega | (unfold ra_in at *; omega))) rfl (ct_86 rfl lk_4_17 (Or.inl rfl) sh_177 (Nat.le_of_ble_eq_true rfl)) (fun s20 hs20 => ?_)
    have hF21 := Fr_tr (lo := 177) (hi := 179) hF14 hs20 (by omega)
    refine ra_load rfl rfl rfl rfl ?_
    refine ra_ifeq rfl rfl (ra_in01 hx1) (fun h22 => ?_) (fun h22 => ?_)
    · exact ra_return rfl rfl ⟨rfl, hF21⟩
    · refine ra_load rfl rfl rfl rfl ?_
      refine ra_bipush rfl (by decide) ?_
      refine ra_cV (sp_86 (by first | omega | (unfold ra_in at *; omega))) rfl (ct_86 rfl lk_4_17 (Or.inl rfl) sh_177 (Nat.le_of_ble_eq_true rfl)) (fun s23 hs23 => ?_)
      have hF24 := Fr_tr (lo := 177) (hi := 179) hF21 hs23 (by omega)
      exact ra_return rfl rfl ⟨rfl, hF24⟩
theorem sp_89 {n : Nat} {f : Nat → Int32} {d : Nat} {x0 : Int} {σ : ra_V} (hx0 : ra_in x0) : ra_C (g_Gs n f) g_sh 0 (d + 1) 89 [.index (177), ra_I x0] σ (fun r s => rI r ∧ s = σ) := by
  refine ra_enter (nn := 0) mt_89 rfl (Nat.le_of_ble_eq_true rfl) rfl (fun h => absurd h (by decide +kernel)) ?_
  refine ra_load rfl rfl rfl rfl ?_
  refine ra_iflt rfl rfl hx0 (fun h1 => ?_) (fun h1 => ?_)
  · refine ra_iconst rfl ?_
    refine ra_goto rfl rfl ?_
    exact ra_ireturn rfl rfl ⟨⟨_, (by first | omega | (unfold ra_in at *; omega)), rfl⟩, rfl⟩
  · refine ra_load rfl rfl rfl rfl ?_
    refine ra_load rfl rfl rfl rfl ?_
    refine ra_getI rfl lk_4_13 (Nat.zero_le _) sh_177 rfl ?_
    refine ra_gen (fun z2 hz2 => ?_)
    refine ra_icge rfl rfl hx0 hz2 (fun h3 => ?_) (fun h3 => ?_)
    · refine ra_iconst rfl ?_
      refine ra_goto rfl rfl ?_
      exact ra_ireturn rfl rfl ⟨⟨_, (by first | omega | (unfold ra_in at *; omega)), rfl⟩, rfl⟩
    · refine ra_load rfl rfl rfl rfl ?_
      refine ra_load rfl rfl rfl rfl ?_
      refine ra_getR rfl lk_4_9 (Nat.zero_le _) sh_177 rfl ?_
      refine ra_alen rfl sh_178 rfl ?_
      refine ra_iclt rfl rfl hx0 (by first | omega | (unfold ra_in at *; omega)) (fun h4 => ?_) (fun h4 => ?_)
      · refine ra_load rfl rfl rfl rfl ?_
        refine ra_getR rfl lk_4_9 (Nat.zero_le _) sh_177 rfl ?_
        refine ra_load rfl rfl rfl rfl ?_
        refine ra_iaload rfl sh_178 rfl (by decide) (by first | omega | (unfold ra_in at *; omega)) (by first | omega | (unfold ra_in at *; omega)) ?_
        refine ra_gen (fun z5 hz5 => ?_)
        exact ra_ireturn rfl rfl ⟨⟨_, hz5, rfl⟩, rfl⟩
      · refine ra_iconst rfl ?_
        refine ra_goto rfl rfl ?_
        exact ra_ireturn rfl rfl ⟨⟨_, (by first | omega | (unfold ra_in at *; omega)), rfl⟩, rfl⟩
theorem sp_97 {n : Nat} {f : Nat → Int32} {d : Nat} {x0 : Int} {σ : ra_V} (hx0 : ra_in x0) (hr : 0 ≤ ra_g σ (175) 1 ∧ ra_g σ (175) 1 ≤ 500 ∧ 0 ≤ x0 ∧ x0 ≤ 500) : ra_C (g_Gs n f) g_sh 0 (d + 1) 97 [.index (175), ra_I x0] σ (fun r s => r = .inl (some (ra_B (ra_g σ (175) 1 + x0 ≤ 500))) ∧ s = σ) := by
  refine ra_enter (nn := 0) mt_97 rfl (Nat.le_of_ble_eq_true rfl) rfl (fun h => absurd h (by decide +kernel)) ?_
  refine ra_load rfl rfl rfl rfl ?_
  refine ra_getI rfl lk_6_22 (Nat.zero_le _) sh_175 rfl ?_
  have hr1 : ra_in (ra_g σ (175) 1) := (ra_in_g _ _ _)
  refine ra_load rfl rfl rfl rfl ?_
  refine ra_iadd rfl ?_
  refine ra_load rfl rfl rfl rfl ?_
  refine ra_getR rfl lk_6_9 (Nat.zero_le _) sh_175 rfl ?_
  refine ra_alen rfl sh_176 rfl ?_
  refine ra_icgt rfl rfl (by first | omega | (unfold ra_in at *; omega)) (by first | omega | (unfold ra_in at *; omega)) (fun h2 => ?_) (fun h2 => ?_)
  · refine ra_iconst rfl ?_
    exact ra_ireturn rfl (ra_okB (Or.inl rfl)) ⟨(by unfold ra_B; rw [if_neg (by omega)]), rfl⟩
  · refine ra_iconst rfl ?_
    refine ra_goto rfl rfl ?_
    exact ra_ireturn rfl (ra_okB (Or.inr rfl)) ⟨(by unfold ra_B; rw [if_pos (by omega)]), rfl⟩
theorem lp_98_3 {n : Nat} {f : Nat → Int32} {d : Nat} {x0 : Int} {σ : ra_V} (hx0 : ra_in x0) (hl : 0 ≤ ra_g σ (175) 1 ∧ ra_g σ (175) 1 + 4 ≤ 500) : ∀ (nn : Nat) (v2 : Int) (s : ra_V) (hv2_0 : -8 ≤ v2) (hv2_1 : v2 ≤ 24) (hv2_2 : v2 % 8 = 0) (hF : Fr (175) (177) σ s) (hn : ra_g s (175) 1 * 8 = ra_g σ (175) 1 * 8 + (24 - v2)) (hm : ((v2 + 8 : Int)).toNat < nn), ra_P (g_Gs n f) g_sh 0 (d + 0) g_m_X6_putBytes 3 [some (.index (175)), some (ra_I x0), some (ra_I v2)] [] s (fun r s => rV r ∧ Fr (175) (177) σ s ∧ ra_g s (175) 1 = ra_g σ (175) 1 + 4) := by
  intro nn
  induction nn with
  | zero => intro v2 s hv2_0 hv2_1 hv2_2 hF hn hm; exact absurd hm (Nat.not_lt_zero _)
  | succ nn ih =>
    intro v2 s hv2_0 hv2_1 hv2_2 hF hn hm
    refine ra_load rfl rfl rfl rfl ?_
    refine ra_iflt rfl rfl (by first | omega | (unfold ra_in at *; omega)) (fun h1 => ?_) (fun h1 => ?_)
    · exact ra_return rfl rfl ⟨rfl, ⟨hF, by omega⟩⟩
    · refine ra_load rfl rfl rfl rfl ?_
      refine ra_getI rfl lk_6_22 (Nat.zero_le _) sh_175 rfl ?_
      refine ra_iflt rfl rfl (ra_in_g _ _ _) (fun h2 => ?_) (fun h2 => ?_)
      · refine ra_iinc (L' := [_, _, _]) rfl rfl (Nat.le_of_ble_eq_true rfl) rfl ?_
        refine ra_goto rfl rfl ?_
        exact ra_weak (by repeat' constructor) (ih (v2 + (-8)) s (by first | omega | (unfold ra_in at *; omega)) (by first | omega | (unfold ra_in at *; omega)) (by first | omega | (unfold ra_in at *; omega)) hF (by first | assumption | omega) (by first | omega | (unfold ra_in at *; omega)))
      · refine ra_load rfl rfl rfl rfl ?_
        refine ra_getI rfl lk_6_22 (Nat.zero_le _) sh_175 rfl ?_
        refine ra_load rfl rfl rfl rfl ?_
        refine ra_getR rfl lk_6_9 (Nat.zero_le _) sh_175 rfl ?_
        refine ra_alen rfl sh_176 rfl ?_
        refine ra_icge rfl rfl (ra_in_g _ _ _) (by first | omega | (unfold ra_in at *; omega)) (fun h3 => ?_) (fun h3 => ?_)
        · refine ra_iinc (L' := [_, _, _]) rfl rfl (Nat.le_of_ble_eq_true rfl) rfl ?_
          refine ra_goto rfl rfl ?_
          exact ra_weak (by repeat' constructor) (ih (v2 + (-8)) s (by first | omega | (unfold ra_in at *; omega)) (by first | omega | (unfold ra_in at *; omega)) (by first | omega | (unfold ra_in at *; omega)) hF (by first | assumption | omega) (by first | omega | (unfold ra_in at *; omega)))
        · refine ra_load rfl rfl rfl rfl ?_
          refine ra_getR rfl lk_6_9 (Nat.zero_le _) sh_175 rfl ?_
          refine ra_load rfl rfl rfl rfl ?_
          refine ra_getI rfl lk_6_22 (Nat.zero_le _) sh_175 rfl ?_
          refine ra_load rfl rfl rfl rfl ?_
          refine ra_load rfl rfl rfl rfl ?_
          refine ra_iushr rfl ?_
          refine ra_gen (fun z4 hz4 => ?_)
          refine ra_sipush rfl (by decide) ?_
          refine ra_iand rfl ?_
          refine ra_gen (fun z5 hz5 => ?_)
          refine ra_iastore rfl sh_176 rfl (by decide) (by first | omega | (unfold ra_in at *; omega)) (by first | omega | (unfold ra_in at *; omega)) ?_
          refine ra_new Fr_up (fun s6 hs6 => ?_)
          have hF7 := Fr_tr (lo := 175) (hi := 177) hF hs6 (by omega)
          have hk8 : s6 (175) = s (175) := (hs6 (175) (by omega))
          refine ra_load rfl rfl rfl rfl ?_
          refine ra_dup rfl rfl ?_
          refine ra_getI rfl lk_6_22 (Nat.zero_le _) sh_175 rfl ?_
          rw [ra_gk hk8]
          refine ra_iconst rfl ?_
          refine ra_iadd rfl ?_
          refine ra_putI rfl lk_6_22 (Nat.zero_le _) sh_175 rfl rfl ?_
          refine ra_newU (by first | omega | (unfold ra_in at *; omega)) (fun s9 hs9 hp10 hp10o => ?_)
          have hp10_4 := hp10o 4 (by decide)
          rw [ra_gk hk8] at hp10_4
          have hF11 := Fr_tr (lo := 175) (hi := 177) hF7 hs9 (by omega)
          refine ra_iinc (L' := [_, _, _]) rfl rfl (Nat.le_of_ble_eq_true rfl) rfl ?_
          refine ra_goto rfl rfl ?_
          exact ra_weak (by repeat' constructor) (ih (v2 + (-8)) s9 (by first | omega | (unfold ra_in at *; omega)) (by first | omega | (unfold ra_in at *; omega)) (by first | omega | (unfold ra_in at *; omega)) hF11 (by first | assumption | omega) (by first | omega | (unfold ra_in at *; omega)))
theorem sp_98 {n : Nat} {f : Nat → Int32} {d : Nat} {x0 : Int} {σ : ra_V} (hx0 : ra_in x0) (hl : 0 ≤ ra_g σ (175) 1 ∧ ra_g σ (175) 1 + 4 ≤ 500) : ra_C (g_Gs n f) g_sh 0 (d + 1) 98 [.index (175), ra_I x0] σ (fun r s => rV r ∧ Fr (175) (177) σ s ∧ ra_g s (175) 1 = ra_g σ (175) 1 + 4) := by
  refine ra_enter (nn := 1) mt_98 rfl (Nat.le_of_ble_eq_true rfl) rfl (fun h => absurd h (by decide +kernel)) ?_
  refine ra_bipush rfl (by decide) ?_
  refine ra_store (L' := [_, _, _]) rfl rfl rfl (Nat.le_of_ble_eq_true rfl) rfl ?_
  exact ra_weak (by repeat' constructor) (lp_98_3 hx0 hl _ (24) σ (by first | omega | (unfold ra_in at *; omega)) (by first | omega | (unfold ra_in at *; omega)) (by first | omega | (unfold ra_in at *; omega)) Fr_rf (by first | assumption | omega) (Nat.lt_succ_self _))
theorem sp_108 {n : Nat} {f : Nat → Int32} {d : Nat} {x0 : Int} {σ : ra_V} (hx0 : ra_in x0) : ra_C (g_Gs n f) g_sh 0 (d + 1) 108 [.index (175), ra_I x0] σ (fun r s => rI r ∧ s = σ) := by
  refine ra_enter (nn := 0) mt_108 rfl (Nat.le_of_ble_eq_true rfl) rfl (fun h => absurd h (by decide +kernel)) ?_
  refine ra_load rfl rfl rfl rfl ?_
  refine ra_iflt rfl rfl hx0 (fun h1 => ?_) (fun h1 => ?_)
  · refine ra_iconst rfl ?_
    refine ra_goto rfl rfl ?_
    exact ra_ireturn rfl rfl ⟨⟨_, (by first | omega | (unfold ra_in at *; omega)), rfl⟩, rfl⟩
  · refine ra_load rfl rfl rfl rfl ?_
    refine ra_load rfl rfl rfl rfl ?_
    refine ra_getI rfl lk_6_22 (Nat.zero_le _) sh_175 rfl ?_
    refine ra_gen (fun z2 hz2 => ?_)
    refine ra_icge rfl rfl hx0 hz2 (fun h3 => ?_) (fun h3 => ?_)
    · refine ra_iconst rfl ?_
      refine ra_goto rfl rfl ?_
      exact ra_ireturn rfl rfl ⟨⟨_, (by first | omega | (unfold ra_in at *; omega)), rfl⟩, rfl⟩
    · refine ra_load rfl rfl rfl rfl ?_
      refine ra_load rfl rfl rfl rfl ?_
      refine ra_getR rfl lk_6_9 (Nat.zero_le _) sh_175 rfl ?_
      refine ra_alen rfl sh_176 rfl ?_
      refine ra_iclt rfl rfl hx0 (by first | omega | (unfold ra_in at *; omega)) (fun h4 => ?_) (fun h4 => ?_)
      · refine ra_load rfl rfl rfl rfl ?_
        refine ra_getR rfl lk_6_9 (Nat.zero_le _) sh_175 rfl ?_
        refine ra_load rfl rfl rfl rfl ?_
        refine ra_iaload rfl sh_176 rfl (by decide) (by first | omega | (unfold ra_in at *; omega)) (by first | omega | (unfold ra_in at *; omega)) ?_
        refine ra_gen (fun z5 hz5 => ?_)
        exact ra_ireturn rfl rfl ⟨⟨_, hz5, rfl⟩, rfl⟩
      · refine ra_iconst rfl ?_
        refine ra_goto rfl rfl ?_
        exact ra_ireturn rfl rfl ⟨⟨_, (by first | omega | (unfold ra_in at *; omega)), rfl⟩, rfl⟩
theorem sp_109 {n : Nat} {f : Nat → Int32} {d : Nat} {x0 : Int} {σ : ra_V} (hx0 : ra_in x0) : ra_C (g_Gs n f) g_sh 0 (d + 1) 109 [ra_I x0] σ (fun r s => rB r ∧ s = σ) := by
  refine ra_enter (nn := 0) mt_109 rfl (Nat.le_of_ble_eq_true rfl) rfl (fun h => absurd h (by decide +kernel)) ?_
  refine ra_load rfl rfl rfl rfl ?_
  refine ra_bipush rfl (by decide) ?_
  refine ra_iclt rfl rfl hx0 (by first | omega | (unfold ra_in at *; omega)) (fun h1 => ?_) (fun h1 => ?_)
  · refine ra_iconst rfl ?_
    exact ra_ireturn rfl (ra_okB (Or.inl rfl)) ⟨⟨_, (Or.inl rfl), rfl⟩, rfl⟩
  · refine ra_load rfl rfl rfl rfl ?_
    refine ra_bipush rfl (by decide) ?_
    refine ra_icgt rfl rfl hx0 (by first | omega | (unfold ra_in at *; omega)) (fun h2 => ?_) (fun h2 => ?_)
    · refine ra_iconst rfl ?_
      exact ra_ireturn rfl (ra_okB (Or.inl rfl)) ⟨⟨_, (Or.inl rfl), rfl⟩, rfl⟩
    · refine ra_iconst rfl ?_
      refine ra_goto rfl rfl ?_
      exact ra_ireturn rfl (ra_okB (Or.inr rfl)) ⟨⟨_, (Or.inr rfl), rfl⟩, rfl⟩
theorem sp_110 {n : Nat} {f : Nat → Int32} {d : Nat} {x0 : Int} {σ : ra_V} (hx0 : ra_in x0) : ra_C (g_Gs n f) g_sh 0 (d + 1) 110 [ra_I x0] σ (fun r s => rB r ∧ s = σ) := by
  refine ra_enter (nn := 0) mt_110 rfl (Nat.le_of_ble_eq_true rfl) rfl (fun h => absurd h (by decide +kernel)) ?_
  refine ra_load rfl rfl rfl rfl ?_
  refine ra_bipush rfl (by decide) ?_
  refine ra_iclt rfl rfl hx0 (by first | omega | (unfold ra_in at *; omega)) (fun h1 => ?_) (fun h1 => ?_)
  · refine ra_iconst rfl ?_
    exact ra_ireturn rfl (ra_okB (Or.inl rfl)) ⟨⟨_, (Or.inl rfl), rfl⟩, rfl⟩
  · refine ra_load rfl rfl rfl rfl ?_
    refine ra_bipush rfl (by decide) ?_
    refine ra_icgt rfl rfl hx0 (by first | omega | (unfold ra_in at *; omega)) (fun h2 => ?_) (fun h2 => ?_)
    · refine ra_iconst rfl ?_
      exact ra_ireturn rfl (ra_okB (Or.inl rfl)) ⟨⟨_, (Or.inl rfl), rfl⟩, rfl⟩
    · refine ra_iconst rfl ?_
      refine ra_goto rfl rfl ?_
      exact ra_ireturn rfl (ra_okB (Or.inr rfl)) ⟨⟨_, (Or.inr rfl), rfl⟩, rfl⟩
theorem sp_107 {n : Nat} {f : Nat → Int32} {d : Nat} {x0 : Int} {σ : ra_V} (hx0 : ra_in x0) : ra_C (g_Gs n f) g_sh 0 (d + 1) 107 [.index (175), ra_I x0] σ (fun r s => rB r ∧ Fr (175) (177) σ s) := by
  refine ra_enter (nn := 0) mt_107 rfl (Nat.le_of_ble_eq_true rfl) rfl (fun h => absurd h (by decide +kernel)) ?_
  refine ra_load rfl rfl rfl rfl ?_
  refine ra_load rfl rfl rfl rfl ?_
  refine ra_putI rfl lk_6_15 (Nat.zero_le _) sh_175 rfl rfl ?_
  refine ra_new Fr_up (fun s1 hs1 => ?_)
  have hF2 := Fr_tr (lo := 175) (hi := 177) Fr_rf hs1 (by omega)
  refine ra_load rfl rfl rfl rfl ?_
  refine ra_load rfl rfl rfl rfl ?_
  refine ra_getI rfl lk_6_137 (Nat.zero_le _) sh_175 rfl ?_
  refine ra_gen (fun z3 hz3 => ?_)
  refine ra_putI rfl lk_6_19 (Nat.zero_le _) sh_175 rfl rfl ?_
  refine ra_new Fr_up (fun s4 hs4 => ?_)
  have hF5 := Fr_tr (lo := 175) (hi := 177) hF2 hs4 (by omega)
  refine ra_iconst rfl ?_
  exact ra_ireturn rfl (ra_okB (Or.inl rfl)) ⟨⟨_, (Or.inl rfl), rfl⟩, hF5⟩
theorem lp_111_176 {n : Nat} {f : Nat → Int32} {d : Nat}  {σ : ra_V}  : ∀ (nn : Nat) (s : ra_V) (hF : Fr (175) (177) σ s) (hm : ((ra_g s (175) 1 - ra_g s (175) 4 : Int)).toNat < nn), ra_P (g_Gs n f) g_sh 0 (d + 1) g_m_X6_next 176 [some (.index (175)), none] [] s (fun r s => rV r ∧ Fr (175) (177) σ s) := by
  intro nn
  induction nn with
  | zero => intro s hF hm; exact absurd hm (Nat.not_lt_zero _)
  | succ nn ih =>
    intro s hF hm
    have hb := ra_in_g s (175) 1
    have hb4 := ra_in_g s (175) 4
    refine ra_load rfl rfl rfl rfl ?_
    refine ra_getI rfl lk_6_25 (Nat.zero_le _) sh_175 rfl ?_
    refine ra_load rfl rfl rfl rfl ?_
    refine ra_getI rfl lk_6_22 (Nat.zero_le _) sh_175 rfl ?_
    refine ra_icge rfl rfl (ra_in_g _ _ _) (ra_in_g _ _ _) (fun h21 => ?_) (fun h21 => ?_)
    · refine ra_load rfl rfl rfl rfl ?_
      refine ra_load rfl rfl rfl rfl ?_
      refine ra_getI rfl lk_6_25 (Nat.zero_le _) sh_175 rfl ?_
      refine ra_load rfl rfl rfl rfl ?_
      refine ra_getI rfl lk_6_137 (Nat.zero_le _) sh_175 rfl ?_
      refine ra_gen (fun z22 hz22 => ?_)
      refine ra_isub rfl ?_
      refine ra_gen (fun z23 hz23 => ?_)
      refine ra_iconst rfl ?_
      refine ra_icle rfl rfl hz23 (by first | omega | (unfold ra_in at *; omega)) (fun h24 => ?_) (fun h24 => ?_)
      · refine ra_iconst rfl ?_
        refine ra_putI rfl lk_6_71 (Nat.zero_le _) sh_175 rfl rfl ?_
        refine ra_newU (by first | omega | (unfold ra_in at *; omega)) (fun s25 hs25 hp26 hp26o => ?_)
        have hp26_1 := hp26o 1 (by decide)
        have hp26_4 := hp26o 4 (by decide)
        have hF27 := Fr_tr (lo := 175) (hi := 177) hF hs25 (by omega)
        exact ra_return rfl rfl ⟨rfl, hF27⟩
      · refine ra_iconst rfl ?_
        refine ra_goto rfl rfl ?_
        refine ra_putI rfl lk_6_71 (Nat.zero_le _) sh_175 rfl rfl ?_
        refine ra_newU (by first | omega | (unfold ra_in at *; omega)) (fun s28 hs28 hp29 hp29o => ?_)
        have hp29_1 := hp29o 1 (by decide)
        have hp29_4 := hp29o 4 (by decide)
        have hF30 := Fr_tr (lo := 175) (hi := 177) hF hs28 (by omega)
        exact ra_return rfl rfl ⟨rfl, hF30⟩
    · refine ra_load rfl rfl rfl rfl ?_
      refine ra_load rfl rfl rfl rfl ?_
      refine ra_getI rfl lk_6_25 (Nat.zero_le _) sh_175 rfl ?_
      refine ra_cIp (sp_108 (ra_in_g _ _ _)) rfl (ct_108 rfl lk_6_140 (Or.inl rfl) sh_175 (Nat.le_of_ble_eq_true rfl)) (fun z32 hz32 => ?_)
      refine ra_cBp (sp_110 hz32) rfl (ct_110 rfl lk_6_147 (Or.inl rfl) (Nat.le_of_ble_eq_true rfl)) (fun z34 hz34 => ?_)
      refine ra_ifeq rfl rfl (ra_in01 hz34) (fun h35 => ?_) (fun h35 => ?_)
      · refine ra_load rfl rfl rfl rfl ?_
        refine ra_load rfl rfl rfl rfl ?_
        refine ra_getI rfl lk_6_25 (Nat.zero_le _) sh_175 rfl ?_
        refine ra_load rfl rfl rfl rfl ?_
        refine ra_getI rfl lk_6_137 (Nat.zero_le _) sh_175 rfl ?_
        refine ra_gen (fun z36 hz36 => ?_)
        refine ra_isub rfl ?_
        refine ra_gen (fun z37 hz37 => ?_)
        refine ra_iconst rfl ?_
        refine ra_icle rfl rfl hz37 (by first | omega | (unfold ra_in at *; omega)) (fun h38 => ?_) (fun h38 => ?_)
        · refine ra_iconst rfl ?_
          refine ra_putI rfl lk_6_71 (Nat.zero_le _) sh_175 rfl rfl ?_
          refine ra_newU (by first | omega | (unfold ra_in at *; omega)) (fun s39 hs39 hp40 hp40o => ?_)
          have hp40_1 := hp40o 1 (by decide)
          have hp40_4 := hp40o 4 (by decide)
          have hF41 := Fr_tr (lo := 175) (hi := 177) hF hs39 (by omega)
          exact ra_return rfl rfl ⟨rfl, hF41⟩
        · refine ra_iconst rfl ?_
          refine ra_goto rfl rfl ?_
          refine ra_putI rfl lk_6_71 (Nat.zero_le _) sh_175 rfl rfl ?_
          refine ra_newU (by first | omega | (unfold ra_in at *; omega)) (fun s42 hs42 hp43 hp43o => ?_)
          have hp43_1 := hp43o 1 (by decide)
          have hp43_4 := hp43o 4 (by decide)
          have hF44 := Fr_tr (lo := 175) (hi := 177) hF hs42 (by omega)
          exact ra_return rfl rfl ⟨rfl, hF44⟩
      · refine ra_load rfl rfl rfl rfl ?_
        refine ra_getI rfl lk_6_25 (Nat.zero_le _) sh_175 rfl ?_
        refine ra_load rfl rfl rfl rfl ?_
        refine ra_getI rfl lk_6_137 (Nat.zero_le _) sh_175 rfl ?_
        refine ra_gen (fun z45 hz45 => ?_)
        refine ra_isub rfl ?_
        refine ra_gen (fun z46 hz46 => ?_)
        refine ra_iconst rfl ?_
        refine ra_icge rfl rfl hz46 (by first | omega | (unfold ra_in at *; omega)) (fun h47 => ?_) (fun h47 => ?_)
        · refine ra_load rfl rfl rfl rfl ?_
          refine ra_dup rfl rfl ?_
          refine ra_getI rfl lk_6_25 (Nat.zero_le _) sh_175 rfl ?_
          refine ra_iconst rfl ?_
          refine ra_iadd rfl ?_
          refine ra_putI rfl lk_6_25 (Nat.zero_le _) sh_175 rfl rfl ?_
          refine ra_newU (by first | omega | (unfold ra_in at *; omega)) (fun s48 hs48 hp49 hp49o => ?_)
          have hp49_1 := hp49o 1 (by decide)
          have hF50 := Fr_tr (lo := 175) (hi := 177) hF hs48 (by omega)
          refine ra_goto rfl rfl ?_
          exact ra_weak (by repeat' constructor) (ih s48 hF50 (by first | omega | (unfold ra_in at *; omega)))
        · refine ra_load rfl rfl rfl rfl ?_
          refine ra_load rfl rfl rfl rfl ?_
          refine ra_getI rfl lk_6_58 (Nat.zero_le _) sh_175 rfl ?_
          refine ra_gen (fun z51 hz51 => ?_)
          refine ra_bipush rfl (by decide) ?_
          refine ra_imul rfl ?_
          refine ra_gen (fun z52 hz52 => ?_)
          refine ra_load rfl rfl rfl rfl ?_
          refine ra_load rfl rfl rfl rfl ?_
          refine ra_getI rfl lk_6_25 (Nat.zero_le _) sh_175 rfl ?_
          refine ra_cIp (sp_108 (ra_in_g _ _ _)) rfl (ct_108 rfl lk_6_140 (Or.inl rfl) sh_175 (Nat.le_of_ble_eq_true rfl)) (fun z54 hz54 => ?_)
          refine ra_iadd rfl ?_
          refine ra_gen (fun z55 hz55 => ?_)
          refine ra_bipush rfl (by decide) ?_
          refine ra_isub rfl ?_
          refine ra_gen (fun z56 hz56 => ?_)
          refine ra_putI rfl lk_6_58 (Nat.zero_le _) sh_175 rfl rfl ?_
          refine ra_newU hz56 (fun s57 hs57 hp58 hp58o => ?_)
          have hp58_1 := hp58o 1 (by decide)
          have hp58_4 := hp58o 4 (by decide)
          have hF59 := Fr_tr (lo := 175) (hi := 177) hF hs57 (by omega)
          refine ra_load rfl rfl rfl rfl ?_
          refine ra_dup rfl rfl ?_
          refine ra_getI rfl lk_6_25 (Nat.zero_le _) sh_175 rfl ?_
          refine ra_iconst rfl ?_
          refine ra_iadd rfl ?_
          refine ra_putI rfl lk_6_25 (Nat.zero_le _) sh_175 rfl rfl ?_
          refine ra_newU (by first | omega | (unfold ra_in at *; omega)) (fun s60 hs60 hp61 hp61o => ?_)
          have hp61_1 := hp61o 1 (by decide)
          have hF62 := Fr_tr (lo := 175) (hi := 177) hF59 hs60 (by omega)
          refine ra_goto rfl rfl ?_
          exact ra_weak (by repeat' constructor) (ih s60 hF62 (by first | omega | (unfold ra_in at *; omega)))
theorem lp_111_106 {n : Nat} {f : Nat → Int32} {d : Nat}  {σ : ra_V}  : ∀ (nn : Nat) (s : ra_V) (hF : Fr (175) (177) σ s) (hm : ((ra_g s (175) 1 - ra_g s (175) 4 : Int)).toNat < nn), ra_P (g_Gs n f) g_sh 0 (d + 1) g_m_X6_next 106 [some (.index (175)), none] [] s (fun r s => rV r ∧ Fr (175) (177) σ s) := by
  intro nn
  induction nn with
  | zero => intro s hF hm; exact absurd hm (Nat.not_lt_zero _)
  | succ nn ih =>
    intro s hF hm
    have hb := ra_in_g s (175) 1
    have hb4 := ra_in_g s (175) 4
    refine ra_load rfl rfl rfl rfl ?_
    refine ra_getI rfl lk_6_25 (Nat.zero_le _) sh_175 rfl ?_
    refine ra_load rfl rfl rfl rfl ?_
    refine ra_getI rfl lk_6_22 (Nat.zero_le _) sh_175 rfl ?_
    refine ra_icge rfl rfl (ra_in_g _ _ _) (ra_in_g _ _ _) (fun h73 => ?_) (fun h73 => ?_)
    · exact ra_return rfl rfl ⟨rfl, hF⟩
    · refine ra_load rfl rfl rfl rfl ?_
      refine ra_load rfl rfl rfl rfl ?_
      refine ra_getI rfl lk_6_25 (Nat.zero_le _) sh_175 rfl ?_
      refine ra_cIp (sp_108 (ra_in_g _ _ _)) rfl (ct_108 rfl lk_6_140 (Or.inl rfl) sh_175 (Nat.le_of_ble_eq_true rfl)) (fun z75 hz75 => ?_)
      refine ra_cBp (sp_109 hz75) rfl (ct_109 rfl lk_6_144 (Or.inl rfl) (Nat.le_of_ble_eq_true rfl)) (fun z77 hz77 => ?_)
      refine ra_ifeq rfl rfl (ra_in01 hz77) (fun h78 => ?_) (fun h78 => ?_)
      · exact ra_return rfl rfl ⟨rfl, hF⟩
      · refine ra_load rfl rfl rfl rfl ?_
        refine ra_dup rfl rfl ?_
        refine ra_getI rfl lk_6_25 (Nat.zero_le _) sh_175 rfl ?_
        refine ra_iconst rfl ?_
        refine ra_iadd rfl ?_
        refine ra_putI rfl lk_6_25 (Nat.zero_le _) sh_175 rfl rfl ?_
        refine ra_newU (by first | omega | (unfold ra_in at *; omega)) (fun s79 hs79 hp80 hp80o => ?_)
        have hp80_1 := hp80o 1 (by decide)
        have hF81 := Fr_tr (lo := 175) (hi := 177) hF hs79 (by omega)
        refine ra_goto rfl rfl ?_
        exact ra_weak (by repeat' constructor) (ih s79 hF81 (by first | omega | (unfold ra_in at *; omega)))
theorem lp_111_0 {n : Nat} {f : Nat → Int32} {d : Nat}  {σ : ra_V}  : ∀ (nn : Nat) (s : ra_V) (hF : Fr (175) (177) σ s) (hm : ((ra_g s (175) 1 - ra_g s (175) 4 : Int)).toNat < nn), ra_P (g_Gs n f) g_sh 0 (d + 1) g_m_X6_next 0 [some (.index (175)), none] [] s (fun r s => rV r ∧ Fr (175) (177) σ s) := by
  intro nn
  induction nn with
  | zero => intro s hF hm; exact absurd hm (Nat.not_lt_zero _)
  | succ nn ih =>
    intro s hF hm
    have hb := ra_in_g s (175) 1
    have hb4 := ra_in_g s (175) 4
    refine ra_load rfl rfl rfl rfl ?_
    refine ra_getI rfl lk_6_25 (Nat.zero_le _) sh_175 rfl ?_
    refine ra_load rfl rfl rfl rfl ?_
    refine ra_getI rfl lk_6_22 (Nat.zero_le _) sh_175 rfl ?_
    refine ra_icge rfl rfl (ra_in_g _ _ _) (ra_in_g _ _ _) (fun h1 => ?_) (fun h1 => ?_)
    · refine ra_load rfl rfl rfl rfl ?_
      refine ra_load rfl rfl rfl rfl ?_
      refine ra_getI rfl lk_6_25 (Nat.zero_le _) sh_175 rfl ?_
      refine ra_putI rfl lk_6_137 (Nat.zero_le _) sh_175 rfl rfl ?_
      refine ra_newU (ra_in_g _ _ _) (fun s2 hs2 hp3 hp3o => ?_)
      have hp3_1 := hp3o 1 (by decide)
      have hp3_4 := hp3o 4 (by decide)
      have hF4 := Fr_tr (lo := 175) (hi := 177) hF hs2 (by omega)
      refine ra_load rfl rfl rfl rfl ?_
      refine ra_getI rfl lk_6_25 (Nat.zero_le _) sh_175 rfl ?_
      refine ra_load rfl rfl rfl rfl ?_
      refine ra_getI rfl lk_6_22 (Nat.zero_le _) sh_175 rfl ?_
      refine ra_iclt rfl rfl (ra_in_g _ _ _) (ra_in_g _ _ _) (fun h5 => ?_) (fun h5 => ?_)
      · refine ra_load rfl rfl rfl rfl ?_
        refine ra_load rfl rfl rfl rfl ?_
        refine ra_getI rfl lk_6_25 (Nat.zero_le _) sh_175 rfl ?_
        refine ra_cIp (sp_108 (ra_in_g _ _ _)) rfl (ct_108 rfl lk_6_140 (Or.inl rfl) sh_175 (Nat.le_of_ble_eq_true rfl)) (fun z7 hz7 => ?_)
        refine ra_store (L' := [_, _]) rfl rfl rfl (Nat.le_of_ble_eq_true rfl) rfl ?_
        refine ra_load rfl rfl rfl rfl ?_
        refine ra_dup rfl rfl ?_
        refine ra_getI rfl lk_6_25 (Nat.zero_le _) sh_175 rfl ?_
        refine ra_iconst rfl ?_
        refine ra_iadd rfl ?_
        refine ra_putI rfl lk_6_25 (Nat.zero_le _) sh_175 rfl rfl ?_
        refine ra_newU (by first | omega | (unfold ra_in at *; omega)) (fun s8 hs8 hp9 hp9o => ?_)
        have hp9_1 := hp9o 1 (by decide)
        have hF10 := Fr_tr (lo := 175) (hi := 177) hF4 hs8 (by omega)
        refine ra_load rfl rfl rfl rfl ?_
        refine ra_cBp (sp_109 hz7) rfl (ct_109 rfl lk_6_144 (Or.inl rfl) (Nat.le_of_ble_eq_true rfl)) (fun z12 hz12 => ?_)
        refine ra_ifeq rfl rfl (ra_in01 hz12) (fun h13 => ?_) (fun h13 => ?_)
        · refine ra_load rfl rfl rfl rfl ?_
          refine ra_cBp (sp_110 hz7) rfl (ct_110 rfl lk_6_147 (Or.inl rfl) (Nat.le_of_ble_eq_true rfl)) (fun z15 hz15 => ?_)
          refine ra_ifne rfl rfl (ra_in01 hz15) (fun h16 => ?_) (fun h16 => ?_)
          · refine ra_load rfl rfl rfl rfl ?_
            refine ra_load rfl rfl rfl rfl ?_
            refine ra_bipush rfl (by decide) ?_
            refine ra_isub rfl ?_
            refine ra_gen (fun z17 hz17 => ?_)
            refine ra_putI rfl lk_6_58 (Nat.zero_le _) sh_175 rfl rfl ?_
            refine ra_newU hz17 (fun s18 hs18 hp19 hp19o => ?_)
            have hp19_1 := hp19o 1 (by decide)
            have hp19_4 := hp19o 4 (by decide)
            have hF20 := Fr_tr (lo := 175) (hi := 177) hF10 hs18 (by omega)
            exact ra_weak (by repeat' constructor) (lp_111_176  _ s18 hF20 (Nat.lt_succ_self _))
          · refine ra_load rfl rfl rfl rfl ?_
            refine ra_load rfl rfl rfl rfl ?_
            refine ra_bipush rfl (by decide) ?_
            refine ra_icne rfl rfl hz7 (by first | omega | (unfold ra_in at *; omega)) (fun h63 => ?_) (fun h63 => ?_)
            · refine ra_iconst rfl ?_
              refine ra_putI rfl lk_6_71 (Nat.zero_le _) sh_175 rfl rfl ?_
              refine ra_newU (by first | omega | (unfold ra_in at *; omega)) (fun s64 hs64 hp65 hp65o => ?_)
              have hp65_1 := hp65o 1 (by decide)
              have hp65_4 := hp65o 4 (by decide)
              have hF66 := Fr_tr (lo := 175) (hi := 177) hF10 hs64 (by omega)
              exact ra_return rfl rfl ⟨rfl, hF66⟩
            · refine ra_iconst rfl ?_
              refine ra_goto rfl rfl ?_
              refine ra_putI rfl lk_6_71 (Nat.zero_le _) sh_175 rfl rfl ?_
              refine ra_newU (by first | omega | (unfold ra_in at *; omega)) (fun s67 hs67 hp68 hp68o => ?_)
              have hp68_1 := hp68o 1 (by decide)
              have hp68_4 := hp68o 4 (by decide)
              have hF69 := Fr_tr (lo := 175) (hi := 177) hF10 hs67 (by omega)
              exact ra_return rfl rfl ⟨rfl, hF69⟩
        · refine ra_load rfl rfl rfl rfl ?_
          refine ra_iconst rfl ?_
          refine ra_putI rfl lk_6_71 (Nat.zero_le _) sh_175 rfl rfl ?_
          refine ra_newU (by first | omega | (unfold ra_in at *; omega)) (fun s70 hs70 hp71 hp71o => ?_)
          have hp71_1 := hp71o 1 (by decide)
          have hp71_4 := hp71o 4 (by decide)
          have hF72 := Fr_tr (lo := 175) (hi := 177) hF10 hs70 (by omega)
          exact ra_weak (by repeat' constructor) (lp_111_106  _ s70 hF72 (Nat.lt_succ_self _))
      · refine ra_load rfl rfl rfl rfl ?_
        refine ra_iconst rfl ?_
        refine ra_putI rfl lk_6_71 (Nat.zero_le _) sh_175 rfl rfl ?_
        refine ra_newU (by first | omega | (unfold ra_in at *; omega)) (fun s82 hs82 hp83 hp83o => ?_)
        have hp83_1 := hp83o 1 (by decide)
        have hp83_4 := hp83o 4 (by decide)
        have hF84 := Fr_tr (lo := 175) (hi := 177) hF4 hs82 (by omega)
        exact ra_return rfl rfl ⟨rfl, hF84⟩
    · refine ra_load rfl rfl rfl rfl ?_
      refine ra_load rfl rfl rfl rfl ?_
      refine ra_getI rfl lk_6_25 (Nat.zero_le _) sh_175 rfl ?_
      refine ra_cIp (sp_108 (ra_in_g _ _ _)) rfl (ct_108 rfl lk_6_140 (Or.inl rfl) sh_175 (Nat.le_of_ble_eq_true rfl)) (fun z86 hz86 => ?_)
      refine ra_bipush rfl (by decide) ?_
      refine ra_iceq rfl rfl hz86 (by first | omega | (unfold ra_in at *; omega)) (fun h87 => ?_) (fun h87 => ?_)
      · refine ra_load rfl rfl rfl rfl ?_
        refine ra_dup rfl rfl ?_
        refine ra_getI rfl lk_6_25 (Nat.zero_le _) sh_175 rfl ?_
        refine ra_iconst rfl ?_
        refine ra_iadd rfl ?_
        refine ra_putI rfl lk_6_25 (Nat.zero_le _) sh_175 rfl rfl ?_
        refine ra_newU (by first | omega | (unfold ra_in at *; omega)) (fun s88 hs88 hp89 hp89o => ?_)
        have hp89_1 := hp89o 1 (by decide)
        have hF90 := Fr_tr (lo := 175) (hi := 177) hF hs88 (by omega)
        refine ra_goto rfl rfl ?_
        exact ra_weak (by repeat' constructor) (ih s88 hF90 (by first | omega | (unfold ra_in at *; omega)))
      · refine ra_load rfl rfl rfl rfl ?_
        refine ra_load rfl rfl rfl rfl ?_
        refine ra_getI rfl lk_6_25 (Nat.zero_le _) sh_175 rfl ?_
        refine ra_cIp (sp_108 (ra_in_g _ _ _)) rfl (ct_108 rfl lk_6_140 (Or.inl rfl) sh_175 (Nat.le_of_ble_eq_true rfl)) (fun z92 hz92 => ?_)
        refine ra_bipush rfl (by decide) ?_
        refine ra_icne rfl rfl hz92 (by first | omega | (unfold ra_in at *; omega)) (fun h93 => ?_) (fun h93 => ?_)
        · refine ra_load rfl rfl rfl rfl ?_
          refine ra_load rfl rfl rfl rfl ?_
          refine ra_getI rfl lk_6_25 (Nat.zero_le _) sh_175 rfl ?_
          refine ra_putI rfl lk_6_137 (Nat.zero_le _) sh_175 rfl rfl ?_
          refine ra_newU (ra_in_g _ _ _) (fun s94 hs94 hp95 hp95o => ?_)
          have hp95_1 := hp95o 1 (by decide)
          have hp95_4 := hp95o 4 (by decide)
          have hF96 := Fr_tr (lo := 175) (hi := 177) hF hs94 (by omega)
          refine ra_load rfl rfl rfl rfl ?_
          refine ra_getI rfl lk_6_25 (Nat.zero_le _) sh_175 rfl ?_
          refine ra_load rfl rfl rfl rfl ?_
          refine ra_getI rfl lk_6_22 (Nat.zero_le _) sh_175 rfl ?_
          refine ra_iclt rfl rfl (ra_in_g _ _ _) (ra_in_g _ _ _) (fun h97 => ?_) (fun h97 => ?_)
          · refine ra_load rfl rfl rfl rfl ?_
            refine ra_load rfl rfl rfl rfl ?_
            refine ra_getI rfl lk_6_25 (Nat.zero_le _) sh_175 rfl ?_
            refine ra_cIp (sp_108 (ra_in_g _ _ _)) rfl (ct_108 rfl lk_6_140 (Or.inl rfl) sh_175 (Nat.le_of_ble_eq_true rfl)) (fun z99 hz99 => ?_)
            refine ra_store (L' := [_, _]) rfl rfl rfl (Nat.le_of_ble_eq_true rfl) rfl ?_
            refine ra_load rfl rfl rfl rfl ?_
            refine ra_dup rfl rfl ?_
            refine ra_getI rfl lk_6_25 (Nat.zero_le _) sh_175 rfl ?_
            refine ra_iconst rfl ?_
            refine ra_iadd rfl ?_
            refine ra_putI rfl lk_6_25 (Nat.zero_le _) sh_175 rfl rfl ?_
            refine ra_newU (by first | omega | (unfold ra_in at *; omega)) (fun s100 hs100 hp101 hp101o => ?_)
            have hp101_1 := hp101o 1 (by decide)
            have hF102 := Fr_tr (lo := 175) (hi := 177) hF96 hs100 (by omega)
            refine ra_load rfl rfl rfl rfl ?_
            refine ra_cBp (sp_109 hz99) rfl (ct_109 rfl lk_6_144 (Or.inl rfl) (Nat.le_of_ble_eq_true rfl)) (fun z104 hz104 => ?_)
            refine ra_ifeq rfl rfl (ra_in01 hz104) (fun h105 => ?_) (fun h105 => ?_)
            · refine ra_load rfl rfl rfl rfl ?_
              refine ra_cBp (sp_110 hz99) rfl (ct_110 rfl lk_6_147 (Or.inl rfl) (Nat.le_of_ble_eq_true rfl)) (fun z107 hz107 => ?_)
              refine ra_ifne rfl rfl (ra_in01 hz107) (fun h108 => ?_) (fun h108 => ?_)
              · refine ra_load rfl rfl rfl rfl ?_
                refine ra_load rfl rfl rfl rfl ?_
                refine ra_bipush rfl (by decide) ?_
                refine ra_isub rfl ?_
                refine ra_gen (fun z109 hz109 => ?_)
                refine ra_putI rfl lk_6_58 (Nat.zero_le _) sh_175 rfl rfl ?_
                refine ra_newU hz109 (fun s110 hs110 hp111 hp111o => ?_)
                have hp111_1 := hp111o 1 (by decide)
                have hp111_4 := hp111o 4 (by decide)
                have hF112 := Fr_tr (lo := 175) (hi := 177) hF102 hs110 (by omega)
                exact ra_weak (by repeat' constructor) (lp_111_176  _ s110 hF112 (Nat.lt_succ_self _))
              · refine ra_load rfl rfl rfl rfl ?_
                refine ra_load rfl rfl rfl rfl ?_
                refine ra_bipush rfl (by decide) ?_
                refine ra_icne rfl rfl hz99 (by first | omega | (unfold ra_in at *; omega)) (fun h113 => ?_) (fun h113 => ?_)
                · refine ra_iconst rfl ?_
                  refine ra_putI rfl lk_6_71 (Nat.zero_le _) sh_175 rfl rfl ?_
                  refine ra_newU (by first | omega | (unfold ra_in at *; omega)) (fun s114 hs114 hp115 hp115o => ?_)
                  have hp115_1 := hp115o 1 (by decide)
                  have hp115_4 := hp115o 4 (by decide)
                  have hF116 := Fr_tr (lo := 175) (hi := 177) hF102 hs114 (by omega)
                  exact ra_return rfl rfl ⟨rfl, hF116⟩
                · refine ra_iconst rfl ?_
                  refine ra_goto rfl rfl ?_
                  refine ra_putI rfl lk_6_71 (Nat.zero_le _) sh_175 rfl rfl ?_
                  refine ra_newU (by first | omega | (unfold ra_in at *; omega)) (fun s117 hs117 hp118 hp118o => ?_)
                  have hp118_1 := hp118o 1 (by decide)
                  have hp118_4 := hp118o 4 (by decide)
                  have hF119 := Fr_tr (lo := 175) (hi := 177) hF102 hs117 (by omega)
                  exact ra_return rfl rfl ⟨rfl, hF119⟩
            · refine ra_load rfl rfl rfl rfl ?_
              refine ra_iconst rfl ?_
              refine ra_putI rfl lk_6_71 (Nat.zero_le _) sh_175 rfl rfl ?_
              refine ra_newU (by first | omega | (unfold ra_in at *; omega)) (fun s120 hs120 hp121 hp121o => ?_)
              have hp121_1 := hp121o 1 (by decide)
              have hp121_4 := hp121o 4 (by decide)
              have hF122 := Fr_tr (lo := 175) (hi := 177) hF102 hs120 (by omega)
              exact ra_weak (by repeat' constructor) (lp_111_106  _ s120 hF122 (Nat.lt_succ_self _))
          · refine ra_load rfl rfl rfl rfl ?_
            refine ra_iconst rfl ?_
            refine ra_putI rfl lk_6_71 (Nat.zero_le _) sh_175 rfl rfl ?_
            refine ra_newU (by first | omega | (unfold ra_in at *; omega)) (fun s123 hs123 hp124 hp124o => ?_)
            have hp124_1 := hp124o 1 (by decide)
            have hp124_4 := hp124o 4 (by decide)
            have hF125 := Fr_tr (lo := 175) (hi := 177) hF96 hs123 (by omega)
            exact ra_return rfl rfl ⟨rfl, hF125⟩
        · refine ra_load rfl rfl rfl rfl ?_
          refine ra_dup rfl rfl ?_
          refine ra_getI rfl lk_6_25 (Nat.zero_le _) sh_175 rfl ?_
          refine ra_iconst rfl ?_
          refine ra_iadd rfl ?_
          refine ra_putI rfl lk_6_25 (Nat.zero_le _) sh_175 rfl rfl ?_
          refine ra_newU (by first | omega | (unfold ra_in at *; omega)) (fun s126 hs126 hp127 hp127o => ?_)
          have hp127_1 := hp127o 1 (by decide)
          have hF128 := Fr_tr (lo := 175) (hi := 177) hF hs126 (by omega)
          refine ra_goto rfl rfl ?_
          exact ra_weak (by repeat' constructor) (ih s126 hF128 (by first | omega | (unfold ra_in at *; omega)))
theorem sp_111 {n : Nat} {f : Nat → Int32} {d : Nat}  {σ : ra_V}  : ra_C (g_Gs n f) g_sh 0 (d + 2) 111 [.index (175)] σ (fun r s => rV r ∧ Fr (175) (177) σ s) := by
  refine ra_enter (nn := 1) mt_111 rfl (Nat.le_of_ble_eq_true rfl) rfl (fun h => absurd h (by decide +kernel)) ?_
  have hb := ra_in_g σ (175) 1
  exact ra_weak (by repeat' constructor) (lp_111_0  _ σ Fr_rf (Nat.lt_succ_self _))
theorem lp_112_28 {n : Nat} {f : Nat → Int32} {d : Nat} {q0 : Nat} {tx0 : String} {u0 w0 : Nat} {σ : ra_V} (hq0 : ri_cp (g_Gs n f) g_m_X6_isWord q0 = some (9, u0, w0, tx0)) (hl0 : tx0.toList.length ≤ 100) : ∀ (nn : Nat) (v2 : Int) (hv2_0 : 0 ≤ v2) (hv2_1 : ra_in v2) (hm : ((((tx0.toList.length : Nat) : Int) - v2 : Int)).toNat < nn), ra_P (g_Gs n f) g_sh 0 (d + 5) g_m_X6_isWord 28 [some (.index (175)), some (.string (ri_own g_m_X6_isWord) q0), some (ra_I v2)] [] σ (fun r s => rB r ∧ s = σ) := by
  intro nn
  induction nn with
  | zero => intro v2 hv2_0 hv2_1 hm; exact absurd hm (Nat.not_lt_zero _)
  | succ nn ih =>
    intro v2 hv2_0 hv2_1 hm
    refine ra_load rfl rfl rfl rfl ?_
    refine ra_load rfl rfl rfl rfl ?_
    refine ra_slen_ rfl lk_6_150 hq0 (Nat.le_of_ble_eq_true rfl) (by decide +kernel) ?_
    refine ra_icge rfl rfl (by first | omega | (unfold ra_in at *; omega)) (by first | omega | (unfold ra_in at *; omega)) (fun h7 => ?_) (fun h7 => ?_)
    · refine ra_iconst rfl ?_
      exact ra_ireturn rfl (ra_okB (Or.inr rfl)) ⟨⟨_, (Or.inr rfl), rfl⟩, rfl⟩
    · refine ra_load rfl rfl rfl rfl ?_
      refine ra_load rfl rfl rfl rfl ?_
      refine ra_getI rfl lk_6_137 (Nat.zero_le _) sh_175 rfl ?_
      refine ra_gen (fun z8 hz8 => ?_)
      refine ra_load rfl rfl rfl rfl ?_
      refine ra_iadd rfl ?_
      refine ra_gen (fun z9 hz9 => ?_)
      refine ra_cIp (sp_108 hz9) rfl (ct_108 rfl lk_6_140 (Or.inl rfl) sh_175 (Nat.le_of_ble_eq_true rfl)) (fun z11 hz11 => ?_)
      refine ra_load rfl rfl rfl rfl ?_
      refine ra_load rfl rfl rfl rfl ?_
      obtain ⟨ch12, hch12⟩ : ∃ c, tx0.toList[(v2).toNat]? = some c := ⟨_, List.getElem?_eq_getElem (by first | omega | (unfold ra_in at *; omega))⟩
      refine ra_schar rfl lk_6_154 hq0 (Nat.le_of_ble_eq_true rfl) (by decide +kernel) (by first | omega | (unfold ra_in at *; omega)) (by first | omega | (unfold ra_in at *; omega)) hch12 ?_
      refine ra_gen (fun z13 hz13 => ?_)
      refine ra_iceq rfl rfl hz11 hz13 (fun h14 => ?_) (fun h14 => ?_)
      · refine ra_iinc (L' := [_, _, _]) rfl rfl (Nat.le_of_ble_eq_true rfl) rfl ?_
        refine ra_goto rfl rfl ?_
        exact ra_weak (by repeat' constructor) (ih (v2 + 1) (by first | omega | (unfold ra_in at *; omega)) (by first | omega | (unfold ra_in at *; omega)) (by first | omega | (unfold ra_in at *; omega)))
      · refine ra_iconst rfl ?_
        exact ra_ireturn rfl (ra_okB (Or.inl rfl)) ⟨⟨_, (Or.inl rfl), rfl⟩, rfl⟩
theorem sp_112 {n : Nat} {f : Nat → Int32} {d : Nat} {q0 : Nat} {tx0 : String} {u0 w0 : Nat} {σ : ra_V} (hq0 : ri_cp (g_Gs n f) g_m_X6_isWord q0 = some (9, u0, w0, tx0)) (hl0 : tx0.toList.length ≤ 100) : ra_C (g_Gs n f) g_sh 0 (d + 6) 112 [.index (175), .string (ri_own g_m_X6_isWord) q0] σ (fun r s => rB r ∧ s = σ) := by
  refine ra_enter (nn := 1) mt_112 rfl (Nat.le_of_ble_eq_true rfl) rfl (fun _ => by omega) ?_
  refine ra_load rfl rfl rfl rfl ?_
  refine ra_getI rfl lk_6_71 (Nat.zero_le _) sh_175 rfl ?_
  refine ra_gen (fun z1 hz1 => ?_)
  refine ra_iconst rfl ?_
  refine ra_icne rfl rfl hz1 (by first | omega | (unfold ra_in at *; omega)) (fun h2 => ?_) (fun h2 => ?_)
  · refine ra_iconst rfl ?_
    exact ra_ireturn rfl (ra_okB (Or.inl rfl)) ⟨⟨_, (Or.inl rfl), rfl⟩, rfl⟩
  · refine ra_load rfl rfl rfl rfl ?_
    refine ra_getI rfl lk_6_25 (Nat.zero_le _) sh_175 rfl ?_
    refine ra_gen (fun z3 hz3 => ?_)
    refine ra_load rfl rfl rfl rfl ?_
    refine ra_getI rfl lk_6_137 (Nat.zero_le _) sh_175 rfl ?_
    refine ra_gen (fun z4 hz4 => ?_)
    refine ra_isub rfl ?_
    refine ra_gen (fun z5 hz5 => ?_)
    refine ra_load rfl rfl rfl rfl ?_
    refine ra_slen_ rfl lk_6_150 hq0 (Nat.le_of_ble_eq_true rfl) (by decide +kernel) ?_
    refine ra_iceq rfl rfl hz5 (by first | omega | (unfold ra_in at *; omega)) (fun h6 => ?_) (fun h6 => ?_)
    · refine ra_iconst rfl ?_
      refine ra_store (L' := [_, _, _]) rfl rfl rfl (Nat.le_of_ble_eq_true rfl) rfl ?_
      exact ra_weak (by repeat' constructor) (lp_112_28 hq0 hl0 _ (0) (by first | omega | (unfold ra_in at *; omega)) (by first | omega | (unfold ra_in at *; omega)) (Nat.lt_succ_self _))
    · refine ra_iconst rfl ?_
      exact ra_ireturn rfl (ra_okB (Or.inl rfl)) ⟨⟨_, (Or.inl rfl), rfl⟩, rfl⟩
theorem sp_106 {n : Nat} {f : Nat → Int32} {d : Nat} {x0 : Int} {x1 : Int} {σ : ra_V} (hx0 : ra_in x0) (hx1 : ra_in x1) : ra_C (g_Gs n f) g_sh 0 (d + 3) 106 [.index (175), ra_I x0, ra_I x1] σ (fun r s => rB r ∧ Fr (175) (177) σ s) := by
  refine ra_enter (nn := 0) mt_106 rfl (Nat.le_of_ble_eq_true rfl) rfl (fun h => absurd h (by decide +kernel)) ?_
  refine ra_load rfl rfl rfl rfl ?_
  refine ra_cV (sp_111 ) rfl (ct_111 rfl lk_6_41 (Or.inl rfl) sh_175 (Nat.le_of_ble_eq_true rfl)) (fun s1 hs1 => ?_)
  have hF2 := Fr_tr (lo := 175) (hi := 177) Fr_rf hs1 (by omega)
  refine ra_load rfl rfl rfl rfl ?_
  refine ra_getI rfl lk_6_71 (Nat.zero_le _) sh_175 rfl ?_
  refine ra_gen (fun z3 hz3 => ?_)
  refine ra_iconst rfl ?_
  refine ra_iceq rfl rfl hz3 (by first | omega | (unfold ra_in at *; omega)) (fun h4 => ?_) (fun h4 => ?_)
  · refine ra_load rfl rfl rfl rfl ?_
    refine ra_getI rfl lk_6_58 (Nat.zero_le _) sh_175 rfl ?_
    refine ra_gen (fun z5 hz5 => ?_)
    refine ra_load rfl rfl rfl rfl ?_
    refine ra_iclt rfl rfl hz5 hx0 (fun h6 => ?_) (fun h6 => ?_)
    · refine ra_load rfl rfl rfl rfl ?_
      refine ra_iconst rfl ?_
      refine ra_cB (sp_107 (by first | omega | (unfold ra_in at *; omega))) rfl (ct_107 rfl lk_6_50 (Or.inl rfl) sh_175 (Nat.le_of_ble_eq_true rfl)) (fun z8 s7  hz8 hs7 => ?_)
      have hF9 := Fr_tr (lo := 175) (hi := 177) hF2 hs7 (by omega)
      refine ra_ifeq rfl rfl (ra_in01 hz8) (fun h10 => ?_) (fun h10 => ?_)
      · refine ra_iconst rfl ?_
        exact ra_ireturn rfl (ra_okB (Or.inl rfl)) ⟨⟨_, (Or.inl rfl), rfl⟩, hF9⟩
      · refine ra_iconst rfl ?_
        refine ra_goto rfl rfl ?_
        exact ra_ireturn rfl (ra_okB (Or.inr rfl)) ⟨⟨_, (Or.inr rfl), rfl⟩, hF9⟩
    · refine ra_load rfl rfl rfl rfl ?_
      refine ra_getI rfl lk_6_58 (Nat.zero_le _) sh_175 rfl ?_
      refine ra_gen (fun z11 hz11 => ?_)
      refine ra_load rfl rfl rfl rfl ?_
      refine ra_icle rfl rfl hz11 hx1 (fun h12 => ?_) (fun h12 => ?_)
      · refine ra_iconst rfl ?_
        refine ra_goto rfl rfl ?_
        exact ra_ireturn rfl (ra_okB (Or.inr rfl)) ⟨⟨_, (Or.inr rfl), rfl⟩, hF2⟩
      · refine ra_load rfl rfl rfl rfl ?_
        refine ra_iconst rfl ?_
        refine ra_cB (sp_107 (by first | omega | (unfold ra_in at *; omega))) rfl (ct_107 rfl lk_6_50 (Or.inl rfl) sh_175 (Nat.le_of_ble_eq_true rfl)) (fun z14 s13  hz14 hs13 => ?_)
        have hF15 := Fr_tr (lo := 175) (hi := 177) hF2 hs13 (by omega)
        refine ra_ifeq rfl rfl (ra_in01 hz14) (fun h16 => ?_) (fun h16 => ?_)
        · refine ra_iconst rfl ?_
          exact ra_ireturn rfl (ra_okB (Or.inl rfl)) ⟨⟨_, (Or.inl rfl), rfl⟩, hF15⟩
        · refine ra_iconst rfl ?_
          refine ra_goto rfl rfl ?_
          exact ra_ireturn rfl (ra_okB (Or.inr rfl)) ⟨⟨_, (Or.inr rfl), rfl⟩, hF15⟩
  · refine ra_load rfl rfl rfl rfl ?_
    refine ra_iconst rfl ?_
    refine ra_cB (sp_107 (by first | omega | (unfold ra_in at *; omega))) rfl (ct_107 rfl lk_6_50 (Or.inl rfl) sh_175 (Nat.le_of_ble_eq_true rfl)) (fun z18 s17  hz18 hs17 => ?_)
    have hF19 := Fr_tr (lo := 175) (hi := 177) hF2 hs17 (by omega)
    exact ra_ireturn rfl (ra_okB hz18) ⟨⟨_, hz18, rfl⟩, hF19⟩
theorem sp_105 {n : Nat} {f : Nat → Int32} {d : Nat}  {σ : ra_V}  : ra_C (g_Gs n f) g_sh 0 (d + 3) 105 [.index (175)] σ (fun r s => rB r ∧ Fr (175) (177) σ s) := by
  refine ra_enter (nn := 0) mt_105 rfl (Nat.le_of_ble_eq_true rfl) rfl (fun h => absurd h (by decide +kernel)) ?_
  refine ra_load rfl rfl rfl rfl ?_
  refine ra_cV (sp_111 ) rfl (ct_111 rfl lk_6_41 (Or.inl rfl) sh_175 (Nat.le_of_ble_eq_true rfl)) (fun s1 hs1 => ?_)
  have hF2 := Fr_tr (lo := 175) (hi := 177) Fr_rf hs1 (by omega)
  refine ra_load rfl rfl rfl rfl ?_
  refine ra_getI rfl lk_6_71 (Nat.zero_le _) sh_175 rfl ?_
  refine ra_gen (fun z3 hz3 => ?_)
  refine ra_iconst rfl ?_
  refine ra_iceq rfl rfl hz3 (by first | omega | (unfold ra_in at *; omega)) (fun h4 => ?_) (fun h4 => ?_)
  · refine ra_iconst rfl ?_
    refine ra_goto rfl rfl ?_
    exact ra_ireturn rfl (ra_okB (Or.inr rfl)) ⟨⟨_, (Or.inr rfl), rfl⟩, hF2⟩
  · refine ra_load rfl rfl rfl rfl ?_
    refine ra_iconst rfl ?_
    refine ra_cB (sp_107 (by first | omega | (unfold ra_in at *; omega))) rfl (ct_107 rfl lk_6_50 (Or.inl rfl) sh_175 (Nat.le_of_ble_eq_true rfl)) (fun z6 s5  hz6 hs5 => ?_)
    have hF7 := Fr_tr (lo := 175) (hi := 177) hF2 hs5 (by omega)
    refine ra_ifeq rfl rfl (ra_in01 hz6) (fun h8 => ?_) (fun h8 => ?_)
    · refine ra_iconst rfl ?_
      exact ra_ireturn rfl (ra_okB (Or.inl rfl)) ⟨⟨_, (Or.inl rfl), rfl⟩, hF7⟩
    · refine ra_iconst rfl ?_
      refine ra_goto rfl rfl ?_
      exact ra_ireturn rfl (ra_okB (Or.inr rfl)) ⟨⟨_, (Or.inr rfl), rfl⟩, hF7⟩
theorem sp_102 {n : Nat} {f : Nat → Int32} {d : Nat} {E0 : Nat} {σ : ra_V} (hE0 : isD E0) (hq : E0 = 14) : ra_C (g_Gs n f) g_sh 0 (d + 4) 102 [.index (175), .index (E0)] σ (fun r s => rB r ∧ Fr (14) (177) σ s ∧ s (40) = σ (40)) := by
  refine ra_enter (nn := 0) mt_102 rfl (Nat.le_of_ble_eq_true rfl) rfl (fun h => absurd h (by decide +kernel)) ?_
  refine ra_load rfl rfl rfl rfl ?_
  refine ra_getBw rfl lk_6_38 (Nat.zero_le _) sh_175 rfl (fun z1 hz1 => ?_)
  refine ra_ifeq rfl rfl (ra_in01 hz1) (fun h2 => ?_) (fun h2 => ?_)
  · refine ra_load rfl rfl rfl rfl ?_
    refine ra_iconst rfl ?_
    refine ra_putB rfl lk_6_38 (Nat.zero_le _) sh_175 rfl rfl (Or.inr rfl) ?_
    refine ra_new Fr_up (fun s3 hs3 => ?_)
    have hF4 := Fr_tr (lo := 14) (hi := 177) Fr_rf hs3 (by omega)
    have hk5 : s3 (40) = σ (40) := (hs3 (40) (by omega))
    refine ra_load rfl rfl rfl rfl ?_
    refine ra_iconst rfl ?_
    refine ra_bipush rfl (by decide) ?_
    refine ra_cB (sp_106 (by first | omega | (unfold ra_in at *; omega)) (by first | omega | (unfold ra_in at *; omega))) rfl (ct_106 rfl lk_6_54 (Or.inl rfl) sh_175 (Nat.le_of_ble_eq_true rfl)) (fun z7 s6  hz7 hs6 => ?_)
    have hF8 := Fr_tr (lo := 14) (hi := 177) hF4 hs6 (by omega)
    have hk9 : s6 (40) = σ (40) := (hs6 (40) (by omega)).trans hk5
    refine ra_ifne rfl rfl (ra_in01 hz7) (fun h10 => ?_) (fun h10 => ?_)
    · refine ra_load rfl rfl rfl rfl ?_
      refine ra_load rfl rfl rfl rfl ?_
      refine ra_getI rfl lk_6_58 (Nat.zero_le _) sh_175 rfl ?_
      refine ra_gen (fun z11 hz11 => ?_)
      refine ra_putI rfl lk_6_112 (Nat.zero_le _) (sh_D hE0) rfl rfl ?_
      refine ra_new Fr_up (fun s12 hs12 => ?_)
      have hF13 := Fr_tr (lo := 14) (hi := 177) hF8 hs12 (by omega)
      have hk14 : s12 (40) = σ (40) := (hs12 (40) (by omega)).trans hk9
      refine ra_iconst rfl ?_
      exact ra_ireturn rfl (ra_okB (Or.inr rfl)) ⟨⟨_, (Or.inr rfl), rfl⟩, ⟨hF13, hk14⟩⟩
    · refine ra_iconst rfl ?_
      exact ra_ireturn rfl (ra_okB (Or.inl rfl)) ⟨⟨_, (Or.inl rfl), rfl⟩, ⟨hF8, hk9⟩⟩
  · refine ra_load rfl rfl rfl rfl ?_
    refine ra_iconst rfl ?_
    refine ra_cB (sp_107 (by first | omega | (unfold ra_in at *; omega))) rfl (ct_107 rfl lk_6_50 (Or.inl rfl) sh_175 (Nat.le_of_ble_eq_true rfl)) (fun z16 s15  hz16 hs15 => ?_)
    have hF17 := Fr_tr (lo := 14) (hi := 177) Fr_rf hs15 (by omega)
    have hk18 : s15 (40) = σ (40) := (hs15 (40) (by omega))
    exact ra_ireturn rfl (ra_okB hz16) ⟨⟨_, hz16, rfl⟩, ⟨hF17, hk18⟩⟩
theorem sp_101 {n : Nat} {f : Nat → Int32} {d : Nat} {E0 : Nat} {σ : ra_V} (hE0 : isD E0) (hq : E0 = 14) : ra_C (g_Gs n f) g_sh 0 (d + 7) 101 [.index (175), .index (E0)] σ (fun r s => rB r ∧ Fr (14) (177) σ s ∧ s (40) = σ (40)) := by
  refine ra_enter (nn := 2) mt_101 rfl (Nat.le_of_ble_eq_true rfl) rfl (fun h => absurd h (by decide +kernel)) ?_
  refine ra_load rfl rfl rfl rfl ?_
  refine ra_ldcS rfl lk_6_96 ?_
  refine ra_cBp (sp_112 lk_6_96 (by decide)) rfl (ct_112 rfl lk_6_46 (Or.inl rfl) sh_175 (Nat.le_of_ble_eq_true rfl)) (fun z2 hz2 => ?_)
  refine ra_store (L' := [_, _, _, _]) rfl rfl rfl (Nat.le_of_ble_eq_true rfl) rfl ?_
  refine ra_load rfl rfl rfl rfl ?_
  refine ra_ldcS rfl lk_6_98 ?_
  refine ra_cBp (sp_112 lk_6_98 (by decide)) rfl (ct_112 rfl lk_6_46 (Or.inl rfl) sh_175 (Nat.le_of_ble_eq_true rfl)) (fun z4 hz4 => ?_)
  refine ra_store (L' := [_, _, _, _]) rfl rfl rfl (Nat.le_of_ble_eq_true rfl) rfl ?_
  refine ra_load rfl rfl rfl rfl ?_
  refine ra_ifne rfl rfl (ra_in01 hz2) (fun h5 => ?_) (fun h5 => ?_)
  · refine ra_load rfl rfl rfl rfl ?_
    refine ra_cIp (sp_4 hE0) rfl (ct_4 rfl lk_6_102 (Or.inl rfl) (sh_D hE0) (Nat.le_of_ble_eq_true rfl)) (fun z7 hz7 => ?_)
    refine ra_ifle rfl rfl hz7 (fun h8 => ?_) (fun h8 => ?_)
    · refine ra_load rfl rfl rfl rfl ?_
      refine ra_ifeq rfl rfl (ra_in01 hz2) (fun h9 => ?_) (fun h9 => ?_)
      · refine ra_load rfl rfl rfl rfl ?_
        refine ra_ifeq rfl rfl (ra_in01 hz4) (fun h10 => ?_) (fun h10 => ?_)
        · refine ra_load rfl rfl rfl rfl ?_
          refine ra_getBw rfl lk_6_35 (Nat.zero_le _) sh_175 rfl (fun z11 hz11 => ?_)
          refine ra_ifeq rfl rfl (ra_in01 hz11) (fun h12 => ?_) (fun h12 => ?_)
          · refine ra_load rfl rfl rfl rfl ?_
            refine ra_ifne rfl rfl (ra_in01 hz2) (fun h13 => ?_) (fun h13 => ?_)
            · refine ra_load rfl rfl rfl rfl ?_
              refine ra_iconst rfl ?_
              refine ra_bipush rfl (by decide) ?_
              refine ra_cB (sp_106 (by first | omega | (unfold ra_in at *; omega)) (by first | omega | (unfold ra_in at *; omega))) rfl (ct_106 rfl lk_6_54 (Or.inl rfl) sh_175 (Nat.le_of_ble_eq_true rfl)) (fun z15 s14  hz15 hs14 => ?_)
              have hF16 := Fr_tr (lo := 14) (hi := 177) Fr_rf hs14 (by omega)
              have hk17 : s14 (40) = σ (40) := (hs14 (40) (by omega))
              refine ra_ifne rfl rfl (ra_in01 hz15) (fun h18 => ?_) (fun h18 => ?_)
              · refine ra_load rfl rfl rfl rfl ?_
                refine ra_ifeq rfl rfl (ra_in01 hz2) (fun h19 => ?_) (fun h19 => ?_)
                · refine ra_load rfl rfl rfl rfl ?_
                  refine ra_ifeq rfl rfl (ra_in01 hz4) (fun h20 => ?_) (fun h20 => ?_)
                  · refine ra_load rfl rfl rfl rfl ?_
                    refine ra_iconst rfl ?_
                    refine ra_putB rfl lk_6_35 (Nat.zero_le _) sh_175 rfl rfl (Or.inr rfl) ?_
                    refine ra_new Fr_up (fun s21 hs21 => ?_)
                    have hF22 := Fr_tr (lo := 14) (hi := 177) hF16 hs21 (by omega)
                    have hk23 : s21 (40) = σ (40) := (hs21 (40) (by omega)).trans hk17
                    refine ra_load rfl rfl rfl rfl ?_
                    refine ra_load rfl rfl rfl rfl ?_
                    refine ra_getI rfl lk_6_58 (Nat.zero_le _) sh_175 rfl ?_
                    refine ra_gen (fun z24 hz24 => ?_)
                    refine ra_putI rfl lk_6_110 (Nat.zero_le _) (sh_D hE0) rfl rfl ?_
                    refine ra_new Fr_up (fun s25 hs25 => ?_)
                    have hF26 := Fr_tr (lo := 14) (hi := 177) hF22 hs25 (by omega)
                    have hk27 : s25 (40) = σ (40) := (hs25 (40) (by omega)).trans hk23
                    refine ra_iconst rfl ?_
                    exact ra_ireturn rfl (ra_okB (Or.inr rfl)) ⟨⟨_, (Or.inr rfl), rfl⟩, ⟨hF26, hk27⟩⟩
                  · refine ra_load rfl rfl rfl rfl ?_
                    refine ra_iconst rfl ?_
                    refine ra_putB rfl lk_6_32 (Nat.zero_le _) sh_175 rfl rfl (Or.inr rfl) ?_
                    refine ra_new Fr_up (fun s28 hs28 => ?_)
                    have hF29 := Fr_tr (lo := 14) (hi := 177) hF16 hs28 (by omega)
                    have hk30 : s28 (40) = σ (40) := (hs28 (40) (by omega)).trans hk17
                    refine ra_load rfl rfl rfl rfl ?_
                    refine ra_load rfl rfl rfl rfl ?_
                    refine ra_getI rfl lk_6_58 (Nat.zero_le _) sh_175 rfl ?_
                    refine ra_gen (fun z31 hz31 => ?_)
                    refine ra_putI rfl lk_6_108 (Nat.zero_le _) (sh_D hE0) rfl rfl ?_
                    refine ra_new Fr_up (fun s32 hs32 => ?_)
                    have hF33 := Fr_tr (lo := 14) (hi := 177) hF29 hs32 (by omega)
                    have hk34 : s32 (40) = σ (40) := (hs32 (40) (by omega)).trans hk30
                    refine ra_goto rfl rfl ?_
                    refine ra_iconst rfl ?_
                    exact ra_ireturn rfl (ra_okB (Or.inr rfl)) ⟨⟨_, (Or.inr rfl), rfl⟩, ⟨hF33, hk34⟩⟩
                · refine ra_load rfl rfl rfl rfl ?_
                  refine ra_iconst rfl ?_
                  refine ra_putB rfl lk_6_28 (Nat.zero_le _) sh_175 rfl rfl (Or.inr rfl) ?_
                  refine ra_new Fr_up (fun s35 hs35 => ?_)
                  have hF36 := Fr_tr (lo := 14) (hi := 177) hF16 hs35 (by omega)
                  have hk37 : s35 (40) = σ (40) := (hs35 (40) (by omega)).trans hk17
                  refine ra_load rfl rfl rfl rfl ?_
                  refine ra_load rfl rfl rfl rfl ?_
                  refine ra_getI rfl lk_6_58 (Nat.zero_le _) sh_175 rfl ?_
                  refine ra_gen (fun z38 hz38 => ?_)
                  refine ra_putI rfl lk_6_106 (Nat.zero_le _) (sh_D hE0) rfl rfl ?_
                  refine ra_new Fr_up (fun s39 hs39 => ?_)
                  have hF40 := Fr_tr (lo := 14) (hi := 177) hF36 hs39 (by omega)
                  have hk41 : s39 (40) = σ (40) := (hs39 (40) (by omega)).trans hk37
                  refine ra_goto rfl rfl ?_
                  refine ra_iconst rfl ?_
                  exact ra_ireturn rfl (ra_okB (Or.inr rfl)) ⟨⟨_, (Or.inr rfl), rfl⟩, ⟨hF40, hk41⟩⟩
              · refine ra_goto rfl rfl ?_
                refine ra_iconst rfl ?_
                exact ra_ireturn rfl (ra_okB (Or.inl rfl)) ⟨⟨_, (Or.inl rfl), rfl⟩, ⟨hF16, hk17⟩⟩
            · refine ra_load rfl rfl rfl rfl ?_
              refine ra_ifeq rfl rfl (ra_in01 hz4) (fun h42 => ?_) (fun h42 => ?_)
              · refine ra_load rfl rfl rfl rfl ?_
                refine ra_iconst rfl ?_
                refine ra_bipush rfl (by decide) ?_
                refine ra_cB (sp_106 (by first | omega | (unfold ra_in at *; omega)) (by first | omega | (unfold ra_in at *; omega))) rfl (ct_106 rfl lk_6_54 (Or.inl rfl) sh_175 (Nat.le_of_ble_eq_true rfl)) (fun z44 s43  hz44 hs43 => ?_)
                have hF45 := Fr_tr (lo := 14) (hi := 177) Fr_rf hs43 (by omega)
                have hk46 : s43 (40) = σ (40) := (hs43 (40) (by omega))
                refine ra_ifne rfl rfl (ra_in01 hz44) (fun h47 => ?_) (fun h47 => ?_)
                · refine ra_load rfl rfl rfl rfl ?_
                  refine ra_ifeq rfl rfl (ra_in01 hz2) (fun h48 => ?_) (fun h48 => ?_)
                  · refine ra_load rfl rfl rfl rfl ?_
                    refine ra_ifeq rfl rfl (ra_in01 hz4) (fun h49 => ?_) (fun h49 => ?_)
                    · refine ra_load rfl rfl rfl rfl ?_
                      refine ra_iconst rfl ?_
                      refine ra_putB rfl lk_6_35 (Nat.zero_le _) sh_175 rfl rfl (Or.inr rfl) ?_
                      refine ra_new Fr_up (fun s50 hs50 => ?_)
                      have hF51 := Fr_tr (lo := 14) (hi := 177) hF45 hs50 (by omega)
                      have hk52 : s50 (40) = σ (40) := (hs50 (40) (by omega)).trans hk46
                      refine ra_load rfl rfl rfl rfl ?_
                      refine ra_load rfl rfl rfl rfl ?_
                      refine ra_getI rfl lk_6_58 (Nat.zero_le _) sh_175 rfl ?_
                      refine ra_gen (fun z53 hz53 => ?_)
                      refine ra_putI rfl lk_6_110 (Nat.zero_le _) (sh_D hE0) rfl rfl ?_
                      refine ra_new Fr_up (fun s54 hs54 => ?_)
                      have hF55 := Fr_tr (lo := 14) (hi := 177) hF51 hs54 (by omega)
                      have hk56 : s54 (40) = σ (40) := (hs54 (40) (by omega)).trans hk52
                      refine ra_iconst rfl ?_
                      exact ra_ireturn rfl (ra_okB (Or.inr rfl)) ⟨⟨_, (Or.inr rfl), rfl⟩, ⟨hF55, hk56⟩⟩
                    · refine ra_load rfl rfl rfl rfl ?_
                      refine ra_iconst rfl ?_
                      refine ra_putB rfl lk_6_32 (Nat.zero_le _) sh_175 rfl rfl (Or.inr rfl) ?_
                      refine ra_new Fr_up (fun s57 hs57 => ?_)
                      have hF58 := Fr_tr (lo := 14) (hi := 177) hF45 hs57 (by omega)
                      have hk59 : s57 (40) = σ (40) := (hs57 (40) (by omega)).trans hk46
                      refine ra_load rfl rfl rfl rfl ?_
                      refine ra_load rfl rfl rfl rfl ?_
                      refine ra_getI rfl lk_6_58 (Nat.zero_le _) sh_175 rfl ?_
                      refine ra_gen (fun z60 hz60 => ?_)
                      refine ra_putI rfl lk_6_108 (Nat.zero_le _) (sh_D hE0) rfl rfl ?_
                      refine ra_new Fr_up (fun s61 hs61 => ?_)
                      have hF62 := Fr_tr (lo := 14) (hi := 177) hF58 hs61 (by omega)
                      have hk63 : s61 (40) = σ (40) := (hs61 (40) (by omega)).trans hk59
                      refine ra_goto rfl rfl ?_
                      refine ra_iconst rfl ?_
                      exact ra_ireturn rfl (ra_okB (Or.inr rfl)) ⟨⟨_, (Or.inr rfl), rfl⟩, ⟨hF62, hk63⟩⟩
                  · refine ra_load rfl rfl rfl rfl ?_
                    refine ra_iconst rfl ?_
                    refine ra_putB rfl lk_6_28 (Nat.zero_le _) sh_175 rfl rfl (Or.inr rfl) ?_
                    refine ra_new Fr_up (fun s64 hs64 => ?_)
                    have hF65 := Fr_tr (lo := 14) (hi := 177) hF45 hs64 (by omega)
                    have hk66 : s64 (40) = σ (40) := (hs64 (40) (by omega)).trans hk46
                    refine ra_load rfl rfl rfl rfl ?_
                    refine ra_load rfl rfl rfl rfl ?_
                    refine ra_getI rfl lk_6_58 (Nat.zero_le _) sh_175 rfl ?_
                    refine ra_gen (fun z67 hz67 => ?_)
                    refine ra_putI rfl lk_6_106 (Nat.zero_le _) (sh_D hE0) rfl rfl ?_
                    refine ra_new Fr_up (fun s68 hs68 => ?_)
                    have hF69 := Fr_tr (lo := 14) (hi := 177) hF65 hs68 (by omega)
                    have hk70 : s68 (40) = σ (40) := (hs68 (40) (by omega)).trans hk66
                    refine ra_goto rfl rfl ?_
                    refine ra_iconst rfl ?_
                    exact ra_ireturn rfl (ra_okB (Or.inr rfl)) ⟨⟨_, (Or.inr rfl), rfl⟩, ⟨hF69, hk70⟩⟩
                · refine ra_iconst rfl ?_
                  exact ra_ireturn rfl (ra_okB (Or.inl rfl)) ⟨⟨_, (Or.inl rfl), rfl⟩, ⟨hF45, hk46⟩⟩
              · refine ra_load rfl rfl rfl rfl ?_
                refine ra_iconst rfl ?_
                refine ra_bipush rfl (by decide) ?_
                refine ra_cB (sp_106 (by first | omega | (unfold ra_in at *; omega)) (by first | omega | (unfold ra_in at *; omega))) rfl (ct_106 rfl lk_6_54 (Or.inl rfl) sh_175 (Nat.le_of_ble_eq_true rfl)) (fun z72 s71  hz72 hs71 => ?_)
                have hF73 := Fr_tr (lo := 14) (hi := 177) Fr_rf hs71 (by omega)
                have hk74 : s71 (40) = σ (40) := (hs71 (40) (by omega))
                refine ra_ifne rfl rfl (ra_in01 hz72) (fun h75 => ?_) (fun h75 => ?_)
                · refine ra_load rfl rfl rfl rfl ?_
                  refine ra_ifeq rfl rfl (ra_in01 hz2) (fun h76 => ?_) (fun h76 => ?_)
                  · refine ra_load rfl rfl rfl rfl ?_
                    refine ra_ifeq rfl rfl (ra_in01 hz4) (fun h77 => ?_) (fun h77 => ?_)
                    · refine ra_load rfl rfl rfl rfl ?_
                      refine ra_iconst rfl ?_
                      refine ra_putB rfl lk_6_35 (Nat.zero_le _) sh_175 rfl rfl (Or.inr rfl) ?_
                      refine ra_new Fr_up (fun s78 hs78 => ?_)
                      have hF79 := Fr_tr (lo := 14) (hi := 177) hF73 hs78 (by omega)
                      have hk80 : s78 (40) = σ (40) := (hs78 (40) (by omega)).trans hk74
                      refine ra_load rfl rfl rfl rfl ?_
                      refine ra_load rfl rfl rfl rfl ?_
                      refine ra_getI rfl lk_6_58 (Nat.zero_le _) sh_175 rfl ?_
                      refine ra_gen (fun z81 hz81 => ?_)
                      refine ra_putI rfl lk_6_110 (Nat.zero_le _) (sh_D hE0) rfl rfl ?_
                      refine ra_new Fr_up (fun s82 hs82 => ?_)
                      have hF83 := Fr_tr (lo := 14) (hi := 177) hF79 hs82 (by omega)
                      have hk84 : s82 (40) = σ (40) := (hs82 (40) (by omega)).trans hk80
                      refine ra_iconst rfl ?_
                      exact ra_ireturn rfl (ra_okB (Or.inr rfl)) ⟨⟨_, (Or.inr rfl), rfl⟩, ⟨hF83, hk84⟩⟩
                    · refine ra_load rfl rfl rfl rfl ?_
                      refine ra_iconst rfl ?_
                      refine ra_putB rfl lk_6_32 (Nat.zero_le _) sh_175 rfl rfl (Or.inr rfl) ?_
                      refine ra_new Fr_up (fun s85 hs85 => ?_)
                      have hF86 := Fr_tr (lo := 14) (hi := 177) hF73 hs85 (by omega)
                      have hk87 : s85 (40) = σ (40) := (hs85 (40) (by omega)).trans hk74
                      refine ra_load rfl rfl rfl rfl ?_
                      refine ra_load rfl rfl rfl rfl ?_
                      refine ra_getI rfl lk_6_58 (Nat.zero_le _) sh_175 rfl ?_
                      refine ra_gen (fun z88 hz88 => ?_)
                      refine ra_putI rfl lk_6_108 (Nat.zero_le _) (sh_D hE0) rfl rfl ?_
                      refine ra_new Fr_up (fun s89 hs89 => ?_)
                      have hF90 := Fr_tr (lo := 14) (hi := 177) hF86 hs89 (by omega)
                      have hk91 : s89 (40) = σ (40) := (hs89 (40) (by omega)).trans hk87
                      refine ra_goto rfl rfl ?_
                      refine ra_iconst rfl ?_
                      exact ra_ireturn rfl (ra_okB (Or.inr rfl)) ⟨⟨_, (Or.inr rfl), rfl⟩, ⟨hF90, hk91⟩⟩
                  · refine ra_load rfl rfl rfl rfl ?_
                    refine ra_iconst rfl ?_
                    refine ra_putB rfl lk_6_28 (Nat.zero_le _) sh_175 rfl rfl (Or.inr rfl) ?_
                    refine ra_new Fr_up (fun s92 hs92 => ?_)
                    have hF93 := Fr_tr (lo := 14) (hi := 177) hF73 hs92 (by omega)
                    have hk94 : s92 (40) = σ (40) := (hs92 (40) (by omega)).trans hk74
                    refine ra_load rfl rfl rfl rfl ?_
                    refine ra_load rfl rfl rfl rfl ?_
                    refine ra_getI rfl lk_6_58 (Nat.zero_le _) sh_175 rfl ?_
                    refine ra_gen (fun z95 hz95 => ?_)
                    refine ra_putI rfl lk_6_106 (Nat.zero_le _) (sh_D hE0) rfl rfl ?_
                    refine ra_new Fr_up (fun s96 hs96 => ?_)
                    have hF97 := Fr_tr (lo := 14) (hi := 177) hF93 hs96 (by omega)
                    have hk98 : s96 (40) = σ (40) := (hs96 (40) (by omega)).trans hk94
                    refine ra_goto rfl rfl ?_
                    refine ra_iconst rfl ?_
                    exact ra_ireturn rfl (ra_okB (Or.inr rfl)) ⟨⟨_, (Or.inr rfl), rfl⟩, ⟨hF97, hk98⟩⟩
                · refine ra_goto rfl rfl ?_
                  refine ra_iconst rfl ?_
                  exact ra_ireturn rfl (ra_okB (Or.inl rfl)) ⟨⟨_, (Or.inl rfl), rfl⟩, ⟨hF73, hk74⟩⟩
          · refine ra_load rfl rfl rfl rfl ?_
            refine ra_iconst rfl ?_
            refine ra_cB (sp_107 (by first | omega | (unfold ra_in at *; omega))) rfl (ct_107 rfl lk_6_50 (Or.inl rfl) sh_175 (Nat.le_of_ble_eq_true rfl)) (fun z100 s99  hz100 hs99 => ?_)
            have hF101 := Fr_tr (lo := 14) (hi := 177) Fr_rf hs99 (by omega)
            have hk102 : s99 (40) = σ (40) := (hs99 (40) (by omega))
            exact ra_ireturn rfl (ra_okB hz100) ⟨⟨_, hz100, rfl⟩, ⟨hF101, hk102⟩⟩
        · refine ra_load rfl rfl rfl rfl ?_
          refine ra_getBw rfl lk_6_32 (Nat.zero_le _) sh_175 rfl (fun z103 hz103 => ?_)
          refine ra_ifeq rfl rfl (ra_in01 hz103) (fun h104 => ?_) (fun h104 => ?_)
          · refine ra_load rfl rfl rfl rfl ?_
            refine ra_ifne rfl rfl (ra_in01 hz2) (fun h105 => ?_) (fun h105 => ?_)
            · refine ra_load rfl rfl rfl rfl ?_
              refine ra_iconst rfl ?_
              refine ra_bipush rfl (by decide) ?_
              refine ra_cB (sp_106 (by first | omega | (unfold ra_in at *; omega)) (by first | omega | (unfold ra_in at *; omega))) rfl (ct_106 rfl lk_6_54 (Or.inl rfl) sh_175 (Nat.le_of_ble_eq_true rfl)) (fun z107 s106  hz107 hs106 => ?_)
              have hF108 := Fr_tr (lo := 14) (hi := 177) Fr_rf hs106 (by omega)
              have hk109 : s106 (40) = σ (40) := (hs106 (40) (by omega))
              refine ra_ifne rfl rfl (ra_in01 hz107) (fun h110 => ?_) (fun h110 => ?_)
              · refine ra_load rfl rfl rfl rfl ?_
                refine ra_ifeq rfl rfl (ra_in01 hz2) (fun h111 => ?_) (fun h111 => ?_)
                · refine ra_load rfl rfl rfl rfl ?_
                  refine ra_ifeq rfl rfl (ra_in01 hz4) (fun h112 => ?_) (fun h112 => ?_)
                  · refine ra_load rfl rfl rfl rfl ?_
                    refine ra_iconst rfl ?_
                    refine ra_putB rfl lk_6_35 (Nat.zero_le _) sh_175 rfl rfl (Or.inr rfl) ?_
                    refine ra_new Fr_up (fun s113 hs113 => ?_)
                    have hF114 := Fr_tr (lo := 14) (hi := 177) hF108 hs113 (by omega)
                    have hk115 : s113 (40) = σ (40) := (hs113 (40) (by omega)).trans hk109
                    refine ra_load rfl rfl rfl rfl ?_
                    refine ra_load rfl rfl rfl rfl ?_
                    refine ra_getI rfl lk_6_58 (Nat.zero_le _) sh_175 rfl ?_
                    refine ra_gen (fun z116 hz116 => ?_)
                    refine ra_putI rfl lk_6_110 (Nat.zero_le _) (sh_D hE0) rfl rfl ?_
                    refine ra_new Fr_up (fun s117 hs117 => ?_)
                    have hF118 := Fr_tr (lo := 14) (hi := 177) hF114 hs117 (by omega)
                    have hk119 : s117 (40) = σ (40) := (hs117 (40) (by omega)).trans hk115
                    refine ra_iconst rfl ?_
                    exact ra_ireturn rfl (ra_okB (Or.inr rfl)) ⟨⟨_, (Or.inr rfl), rfl⟩, ⟨hF118, hk119⟩⟩
                  · refine ra_load rfl rfl rfl rfl ?_
                    refine ra_iconst rfl ?_
                    refine ra_putB rfl lk_6_32 (Nat.zero_le _) sh_175 rfl rfl (Or.inr rfl) ?_
                    refine ra_new Fr_up (fun s120 hs120 => ?_)
                    have hF121 := Fr_tr (lo := 14) (hi := 177) hF108 hs120 (by omega)
                    have hk122 : s120 (40) = σ (40) := (hs120 (40) (by omega)).trans hk109
                    refine ra_load rfl rfl rfl rfl ?_
                    refine ra_load rfl rfl rfl rfl ?_
                    refine ra_getI rfl lk_6_58 (Nat.zero_le _) sh_175 rfl ?_
                    refine ra_gen (fun z123 hz123 => ?_)
                    refine ra_putI rfl lk_6_108 (Nat.zero_le _) (sh_D hE0) rfl rfl ?_
                    refine ra_new Fr_up (fun s124 hs124 => ?_)
                    have hF125 := Fr_tr (lo := 14) (hi := 177) hF121 hs124 (by omega)
                    have hk126 : s124 (40) = σ (40) := (hs124 (40) (by omega)).trans hk122
                    refine ra_goto rfl rfl ?_
                    refine ra_iconst rfl ?_
                    exact ra_ireturn rfl (ra_okB (Or.inr rfl)) ⟨⟨_, (Or.inr rfl), rfl⟩, ⟨hF125, hk126⟩⟩
                · refine ra_load rfl rfl rfl rfl ?_
                  refine ra_iconst rfl ?_
                  refine ra_putB rfl lk_6_28 (Nat.zero_le _) sh_175 rfl rfl (Or.inr rfl) ?_
                  refine ra_new Fr_up (fun s127 hs127 => ?_)
                  have hF128 := Fr_tr (lo := 14) (hi := 177) hF108 hs127 (by omega)
                  have hk129 : s127 (40) = σ (40) := (hs127 (40) (by omega)).trans hk109
                  refine ra_load rfl rfl rfl rfl ?_
                  refine ra_load rfl rfl rfl rfl ?_
                  refine ra_getI rfl lk_6_58 (Nat.zero_le _) sh_175 rfl ?_
                  refine ra_gen (fun z130 hz130 => ?_)
                  refine ra_putI rfl lk_6_106 (Nat.zero_le _) (sh_D hE0) rfl rfl ?_
                  refine ra_new Fr_up (fun s131 hs131 => ?_)
                  have hF132 := Fr_tr (lo := 14) (hi := 177) hF128 hs131 (by omega)
                  have hk133 : s131 (40) = σ (40) := (hs131 (40) (by omega)).trans hk129
                  refine ra_goto rfl rfl ?_
                  refine ra_iconst rfl ?_
                  exact ra_ireturn rfl (ra_okB (Or.inr rfl)) ⟨⟨_, (Or.inr rfl), rfl⟩, ⟨hF132, hk133⟩⟩
              · refine ra_goto rfl rfl ?_
                refine ra_iconst rfl ?_
                exact ra_ireturn rfl (ra_okB (Or.inl rfl)) ⟨⟨_, (Or.inl rfl), rfl⟩, ⟨hF108, hk109⟩⟩
            · refine ra_load rfl rfl rfl rfl ?_
              refine ra_ifeq rfl rfl (ra_in01 hz4) (fun h134 => ?_) (fun h134 => ?_)
              · refine ra_load rfl rfl rfl rfl ?_
                refine ra_iconst rfl ?_
                refine ra_bipush rfl (by decide) ?_
                refine ra_cB (sp_106 (by first | omega | (unfold ra_in at *; omega)) (by first | omega | (unfold ra_in at *; omega))) rfl (ct_106 rfl lk_6_54 (Or.inl rfl) sh_175 (Nat.le_of_ble_eq_true rfl)) (fun z136 s135  hz136 hs135 => ?_)
                have hF137 := Fr_tr (lo := 14) (hi := 177) Fr_rf hs135 (by omega)
                have hk138 : s135 (40) = σ (40) := (hs135 (40) (by omega))
                refine ra_ifne rfl rfl (ra_in01 hz136) (fun h139 => ?_) (fun h139 => ?_)
                · refine ra_load rfl rfl rfl rfl ?_
                  refine ra_ifeq rfl rfl (ra_in01 hz2) (fun h140 => ?_) (fun h140 => ?_)
                  · refine ra_load rfl rfl rfl rfl ?_
                    refine ra_ifeq rfl rfl (ra_in01 hz4) (fun h141 => ?_) (fun h141 => ?_)
                    · refine ra_load rfl rfl rfl rfl ?_
                      refine ra_iconst rfl ?_
                      refine ra_putB rfl lk_6_35 (Nat.zero_le _) sh_175 rfl rfl (Or.inr rfl) ?_
                      refine ra_new Fr_up (fun s142 hs142 => ?_)
                      have hF143 := Fr_tr (lo := 14) (hi := 177) hF137 hs142 (by omega)
                      have hk144 : s142 (40) = σ (40) := (hs142 (40) (by omega)).trans hk138
                      refine ra_load rfl rfl rfl rfl ?_
                      refine ra_load rfl rfl rfl rfl ?_
                      refine ra_getI rfl lk_6_58 (Nat.zero_le _) sh_175 rfl ?_
                      refine ra_gen (fun z145 hz145 => ?_)
                      refine ra_putI rfl lk_6_110 (Nat.zero_le _) (sh_D hE0) rfl rfl ?_
                      refine ra_new Fr_up (fun s146 hs146 => ?_)
                      have hF147 := Fr_tr (lo := 14) (hi := 177) hF143 hs146 (by omega)
                      have hk148 : s146 (40) = σ (40) := (hs146 (40) (by omega)).trans hk144
                      refine ra_iconst rfl ?_
                      exact ra_ireturn rfl (ra_okB (Or.inr rfl)) ⟨⟨_, (Or.inr rfl), rfl⟩, ⟨hF147, hk148⟩⟩
                    · refine ra_load rfl rfl rfl rfl ?_
                      refine ra_iconst rfl ?_
                      refine ra_putB rfl lk_6_32 (Nat.zero_le _) sh_175 rfl rfl (Or.inr rfl) ?_
                      refine ra_new Fr_up (fun s149 hs149 => ?_)
                      have hF150 := Fr_tr (lo := 14) (hi := 177) hF137 hs149 (by omega)
                      have hk151 : s149 (40) = σ (40) := (hs149 (40) (by omega)).trans hk138
                      refine ra_load rfl rfl rfl rfl ?_
                      refine ra_load rfl rfl rfl rfl ?_
                      refine ra_getI rfl lk_6_58 (Nat.zero_le _) sh_175 rfl ?_
                      refine ra_gen (fun z152 hz152 => ?_)
                      refine ra_putI rfl lk_6_108 (Nat.zero_le _) (sh_D hE0) rfl rfl ?_
                      refine ra_new Fr_up (fun s153 hs153 => ?_)
                      have hF154 := Fr_tr (lo := 14) (hi := 177) hF150 hs153 (by omega)
                      have hk155 : s153 (40) = σ (40) := (hs153 (40) (by omega)).trans hk151
                      refine ra_goto rfl rfl ?_
                      refine ra_iconst rfl ?_
                      exact ra_ireturn rfl (ra_okB (Or.inr rfl)) ⟨⟨_, (Or.inr rfl), rfl⟩, ⟨hF154, hk155⟩⟩
                  · refine ra_load rfl rfl rfl rfl ?_
                    refine ra_iconst rfl ?_
                    refine ra_putB rfl lk_6_28 (Nat.zero_le _) sh_175 rfl rfl (Or.inr rfl) ?_
                    refine ra_new Fr_up (fun s156 hs156 => ?_)
                    have hF157 := Fr_tr (lo := 14) (hi := 177) hF137 hs156 (by omega)
                    have hk158 : s156 (40) = σ (40) := (hs156 (40) (by omega)).trans hk138
                    refine ra_load rfl rfl rfl rfl ?_
                    refine ra_load rfl rfl rfl rfl ?_
                    refine ra_getI rfl lk_6_58 (Nat.zero_le _) sh_175 rfl ?_
                    refine ra_gen (fun z159 hz159 => ?_)
                    refine ra_putI rfl lk_6_106 (Nat.zero_le _) (sh_D hE0) rfl rfl ?_
                    refine ra_new Fr_up (fun s160 hs160 => ?_)
                    have hF161 := Fr_tr (lo := 14) (hi := 177) hF157 hs160 (by omega)
                    have hk162 : s160 (40) = σ (40) := (hs160 (40) (by omega)).trans hk158
                    refine ra_goto rfl rfl ?_
                    refine ra_iconst rfl ?_
                    exact ra_ireturn rfl (ra_okB (Or.inr rfl)) ⟨⟨_, (Or.inr rfl), rfl⟩, ⟨hF161, hk162⟩⟩
                · refine ra_iconst rfl ?_
                  exact ra_ireturn rfl (ra_okB (Or.inl rfl)) ⟨⟨_, (Or.inl rfl), rfl⟩, ⟨hF137, hk138⟩⟩
              · refine ra_load rfl rfl rfl rfl ?_
                refine ra_iconst rfl ?_
                refine ra_bipush rfl (by decide) ?_
                refine ra_cB (sp_106 (by first | omega | (unfold ra_in at *; omega)) (by first | omega | (unfold ra_in at *; omega))) rfl (ct_106 rfl lk_6_54 (Or.inl rfl) sh_175 (Nat.le_of_ble_eq_true rfl)) (fun z164 s163  hz164 hs163 => ?_)
                have hF165 := Fr_tr (lo := 14) (hi := 177) Fr_rf hs163 (by omega)
                have hk166 : s163 (40) = σ (40) := (hs163 (40) (by omega))
                refine ra_ifne rfl rfl (ra_in01 hz164) (fun h167 => ?_) (fun h167 => ?_)
                · refine ra_load rfl rfl rfl rfl ?_
                  refine ra_ifeq rfl rfl (ra_in01 hz2) (fun h168 => ?_) (fun h168 => ?_)
                  · refine ra_load rfl rfl rfl rfl ?_
                    refine ra_ifeq rfl rfl (ra_in01 hz4) (fun h169 => ?_) (fun h169 => ?_)
                    · refine ra_load rfl rfl rfl rfl ?_
                      refine ra_iconst rfl ?_
                      refine ra_putB rfl lk_6_35 (Nat.zero_le _) sh_175 rfl rfl (Or.inr rfl) ?_
                      refine ra_new Fr_up (fun s170 hs170 => ?_)
                      have hF171 := Fr_tr (lo := 14) (hi := 177) hF165 hs170 (by omega)
                      have hk172 : s170 (40) = σ (40) := (hs170 (40) (by omega)).trans hk166
                      refine ra_load rfl rfl rfl rfl ?_
                      refine ra_load rfl rfl rfl rfl ?_
                      refine ra_getI rfl lk_6_58 (Nat.zero_le _) sh_175 rfl ?_
                      refine ra_gen (fun z173 hz173 => ?_)
                      refine ra_putI rfl lk_6_110 (Nat.zero_le _) (sh_D hE0) rfl rfl ?_
                      refine ra_new Fr_up (fun s174 hs174 => ?_)
                      have hF175 := Fr_tr (lo := 14) (hi := 177) hF171 hs174 (by omega)
                      have hk176 : s174 (40) = σ (40) := (hs174 (40) (by omega)).trans hk172
                      refine ra_iconst rfl ?_
                      exact ra_ireturn rfl (ra_okB (Or.inr rfl)) ⟨⟨_, (Or.inr rfl), rfl⟩, ⟨hF175, hk176⟩⟩
                    · refine ra_load rfl rfl rfl rfl ?_
                      refine ra_iconst rfl ?_
                      refine ra_putB rfl lk_6_32 (Nat.zero_le _) sh_175 rfl rfl (Or.inr rfl) ?_
                      refine ra_new Fr_up (fun s177 hs177 => ?_)
                      have hF178 := Fr_tr (lo := 14) (hi := 177) hF165 hs177 (by omega)
                      have hk179 : s177 (40) = σ (40) := (hs177 (40) (by omega)).trans hk166
                      refine ra_load rfl rfl rfl rfl ?_
                      refine ra_load rfl rfl rfl rfl ?_
                      refine ra_getI rfl lk_6_58 (Nat.zero_le _) sh_175 rfl ?_
                      refine ra_gen (fun z180 hz180 => ?_)
                      refine ra_putI rfl lk_6_108 (Nat.zero_le _) (sh_D hE0) rfl rfl ?_
                      refine ra_new Fr_up (fun s181 hs181 => ?_)
                      have hF182 := Fr_tr (lo := 14) (hi := 177) hF178 hs181 (by omega)
                      have hk183 : s181 (40) = σ (40) := (hs181 (40) (by omega)).trans hk179
                      refine ra_goto rfl rfl ?_
                      refine ra_iconst rfl ?_
                      exact ra_ireturn rfl (ra_okB (Or.inr rfl)) ⟨⟨_, (Or.inr rfl), rfl⟩, ⟨hF182, hk183⟩⟩
                  · refine ra_load rfl rfl rfl rfl ?_
                    refine ra_iconst rfl ?_
                    refine ra_putB rfl lk_6_28 (Nat.zero_le _) sh_175 rfl rfl (Or.inr rfl) ?_
                    refine ra_new Fr_up (fun s184 hs184 => ?_)
                    have hF185 := Fr_tr (lo := 14) (hi := 177) hF165 hs184 (by omega)
                    have hk186 : s184 (40) = σ (40) := (hs184 (40) (by omega)).trans hk166
                    refine ra_load rfl rfl rfl rfl ?_
                    refine ra_load rfl rfl rfl rfl ?_
                    refine ra_getI rfl lk_6_58 (Nat.zero_le _) sh_175 rfl ?_
                    refine ra_gen (fun z187 hz187 => ?_)
                    refine ra_putI rfl lk_6_106 (Nat.zero_le _) (sh_D hE0) rfl rfl ?_
                    refine ra_new Fr_up (fun s188 hs188 => ?_)
                    have hF189 := Fr_tr (lo := 14) (hi := 177) hF185 hs188 (by omega)
                    have hk190 : s188 (40) = σ (40) := (hs188 (40) (by omega)).trans hk186
                    refine ra_goto rfl rfl ?_
                    refine ra_iconst rfl ?_
                    exact ra_ireturn rfl (ra_okB (Or.inr rfl)) ⟨⟨_, (Or.inr rfl), rfl⟩, ⟨hF189, hk190⟩⟩
                · refine ra_goto rfl rfl ?_
                  refine ra_iconst rfl ?_
                  exact ra_ireturn rfl (ra_okB (Or.inl rfl)) ⟨⟨_, (Or.inl rfl), rfl⟩, ⟨hF165, hk166⟩⟩
          · refine ra_goto rfl rfl ?_
            refine ra_load rfl rfl rfl rfl ?_
            refine ra_iconst rfl ?_
            refine ra_cB (sp_107 (by first | omega | (unfold ra_in at *; omega))) rfl (ct_107 rfl lk_6_50 (Or.inl rfl) sh_175 (Nat.le_of_ble_eq_true rfl)) (fun z192 s191  hz192 hs191 => ?_)
            have hF193 := Fr_tr (lo := 14) (hi := 177) Fr_rf hs191 (by omega)
            have hk194 : s191 (40) = σ (40) := (hs191 (40) (by omega))
            exact ra_ireturn rfl (ra_okB hz192) ⟨⟨_, hz192, rfl⟩, ⟨hF193, hk194⟩⟩
      · refine ra_load rfl rfl rfl rfl ?_
        refine ra_getBw rfl lk_6_28 (Nat.zero_le _) sh_175 rfl (fun z195 hz195 => ?_)
        refine ra_ifeq rfl rfl (ra_in01 hz195) (fun h196 => ?_) (fun h196 => ?_)
        · refine ra_load rfl rfl rfl rfl ?_
          refine ra_ifne rfl rfl (ra_in01 hz2) (fun h197 => ?_) (fun h197 => ?_)
          · refine ra_load rfl rfl rfl rfl ?_
            refine ra_iconst rfl ?_
            refine ra_bipush rfl (by decide) ?_
            refine ra_cB (sp_106 (by first | omega | (unfold ra_in at *; omega)) (by first | omega | (unfold ra_in at *; omega))) rfl (ct_106 rfl lk_6_54 (Or.inl rfl) sh_175 (Nat.le_of_ble_eq_true rfl)) (fun z199 s198  hz199 hs198 => ?_)
            have hF200 := Fr_tr (lo := 14) (hi := 177) Fr_rf hs198 (by omega)
            have hk201 : s198 (40) = σ (40) := (hs198 (40) (by omega))
            refine ra_ifne rfl rfl (ra_in01 hz199) (fun h202 => ?_) (fun h202 => ?_)
            · refine ra_load rfl rfl rfl rfl ?_
              refine ra_ifeq rfl rfl (ra_in01 hz2) (fun h203 => ?_) (fun h203 => ?_)
              · refine ra_load rfl rfl rfl rfl ?_
                refine ra_ifeq rfl rfl (ra_in01 hz4) (fun h204 => ?_) (fun h204 => ?_)
                · refine ra_load rfl rfl rfl rfl ?_
                  refine ra_iconst rfl ?_
                  refine ra_putB rfl lk_6_35 (Nat.zero_le _) sh_175 rfl rfl (Or.inr rfl) ?_
                  refine ra_new Fr_up (fun s205 hs205 => ?_)
                  have hF206 := Fr_tr (lo := 14) (hi := 177) hF200 hs205 (by omega)
                  have hk207 : s205 (40) = σ (40) := (hs205 (40) (by omega)).trans hk201
                  refine ra_load rfl rfl rfl rfl ?_
                  refine ra_load rfl rfl rfl rfl ?_
                  refine ra_getI rfl lk_6_58 (Nat.zero_le _) sh_175 rfl ?_
                  refine ra_gen (fun z208 hz208 => ?_)
                  refine ra_putI rfl lk_6_110 (Nat.zero_le _) (sh_D hE0) rfl rfl ?_
                  refine ra_new Fr_up (fun s209 hs209 => ?_)
                  have hF210 := Fr_tr (lo := 14) (hi := 177) hF206 hs209 (by omega)
                  have hk211 : s209 (40) = σ (40) := (hs209 (40) (by omega)).trans hk207
                  refine ra_iconst rfl ?_
                  exact ra_ireturn rfl (ra_okB (Or.inr rfl)) ⟨⟨_, (Or.inr rfl), rfl⟩, ⟨hF210, hk211⟩⟩
                · refine ra_load rfl rfl rfl rfl ?_
                  refine ra_iconst rfl ?_
                  refine ra_putB rfl lk_6_32 (Nat.zero_le _) sh_175 rfl rfl (Or.inr rfl) ?_
                  refine ra_new Fr_up (fun s212 hs212 => ?_)
                  have hF213 := Fr_tr (lo := 14) (hi := 177) hF200 hs212 (by omega)
                  have hk214 : s212 (40) = σ (40) := (hs212 (40) (by omega)).trans hk201
                  refine ra_load rfl rfl rfl rfl ?_
                  refine ra_load rfl rfl rfl rfl ?_
                  refine ra_getI rfl lk_6_58 (Nat.zero_le _) sh_175 rfl ?_
                  refine ra_gen (fun z215 hz215 => ?_)
                  refine ra_putI rfl lk_6_108 (Nat.zero_le _) (sh_D hE0) rfl rfl ?_
                  refine ra_new Fr_up (fun s216 hs216 => ?_)
                  have hF217 := Fr_tr (lo := 14) (hi := 177) hF213 hs216 (by omega)
                  have hk218 : s216 (40) = σ (40) := (hs216 (40) (by omega)).trans hk214
                  refine ra_goto rfl rfl ?_
                  refine ra_iconst rfl ?_
                  exact ra_ireturn rfl (ra_okB (Or.inr rfl)) ⟨⟨_, (Or.inr rfl), rfl⟩, ⟨hF217, hk218⟩⟩
              · refine ra_load rfl rfl rfl rfl ?_
                refine ra_iconst rfl ?_
                refine ra_putB rfl lk_6_28 (Nat.zero_le _) sh_175 rfl rfl (Or.inr rfl) ?_
                refine ra_new Fr_up (fun s219 hs219 => ?_)
                have hF220 := Fr_tr (lo := 14) (hi := 177) hF200 hs219 (by omega)
                have hk221 : s219 (40) = σ (40) := (hs219 (40) (by omega)).trans hk201
                refine ra_load rfl rfl rfl rfl ?_
                refine ra_load rfl rfl rfl rfl ?_
                refine ra_getI rfl lk_6_58 (Nat.zero_le _) sh_175 rfl ?_
                refine ra_gen (fun z222 hz222 => ?_)
                refine ra_putI rfl lk_6_106 (Nat.zero_le _) (sh_D hE0) rfl rfl ?_
                refine ra_new Fr_up (fun s223 hs223 => ?_)
                have hF224 := Fr_tr (lo := 14) (hi := 177) hF220 hs223 (by omega)
                have hk225 : s223 (40) = σ (40) := (hs223 (40) (by omega)).trans hk221
                refine ra_goto rfl rfl ?_
                refine ra_iconst rfl ?_
                exact ra_ireturn rfl (ra_okB (Or.inr rfl)) ⟨⟨_, (Or.inr rfl), rfl⟩, ⟨hF224, hk225⟩⟩
            · refine ra_goto rfl rfl ?_
              refine ra_iconst rfl ?_
              exact ra_ireturn rfl (ra_okB (Or.inl rfl)) ⟨⟨_, (Or.inl rfl), rfl⟩, ⟨hF200, hk201⟩⟩
          · refine ra_load rfl rfl rfl rfl ?_
            refine ra_ifeq rfl rfl (ra_in01 hz4) (fun h226 => ?_) (fun h226 => ?_)
            · refine ra_load rfl rfl rfl rfl ?_
              refine ra_iconst rfl ?_
              refine ra_bipush rfl (by decide) ?_
              refine ra_cB (sp_106 (by first | omega | (unfold ra_in at *; omega)) (by first | omega | (unfold ra_in at *; omega))) rfl (ct_106 rfl lk_6_54 (Or.inl rfl) sh_175 (Nat.le_of_ble_eq_true rfl)) (fun z228 s227  hz228 hs227 => ?_)
              have hF229 := Fr_tr (lo := 14) (hi := 177) Fr_rf hs227 (by omega)
              have hk230 : s227 (40) = σ (40) := (hs227 (40) (by omega))
              refine ra_ifne rfl rfl (ra_in01 hz228) (fun h231 => ?_) (fun h231 => ?_)
              · refine ra_load rfl rfl rfl rfl ?_
                refine ra_ifeq rfl rfl (ra_in01 hz2) (fun h232 => ?_) (fun h232 => ?_)
                · refine ra_load rfl rfl rfl rfl ?_
                  refine ra_ifeq rfl rfl (ra_in01 hz4) (fun h233 => ?_) (fun h233 => ?_)
                  · refine ra_load rfl rfl rfl rfl ?_
                    refine ra_iconst rfl ?_
                    refine ra_putB rfl lk_6_35 (Nat.zero_le _) sh_175 rfl rfl (Or.inr rfl) ?_
                    refine ra_new Fr_up (fun s234 hs234 => ?_)
                    have hF235 := Fr_tr (lo := 14) (hi := 177) hF229 hs234 (by omega)
                    have hk236 : s234 (40) = σ (40) := (hs234 (40) (by omega)).trans hk230
                    refine ra_load rfl rfl rfl rfl ?_
                    refine ra_load rfl rfl rfl rfl ?_
                    refine ra_getI rfl lk_6_58 (Nat.zero_le _) sh_175 rfl ?_
                    refine ra_gen (fun z237 hz237 => ?_)
                    refine ra_putI rfl lk_6_110 (Nat.zero_le _) (sh_D hE0) rfl rfl ?_
                    refine ra_new Fr_up (fun s238 hs238 => ?_)
                    have hF239 := Fr_tr (lo := 14) (hi := 177) hF235 hs238 (by omega)
                    have hk240 : s238 (40) = σ (40) := (hs238 (40) (by omega)).trans hk236
                    refine ra_iconst rfl ?_
                    exact ra_ireturn rfl (ra_okB (Or.inr rfl)) ⟨⟨_, (Or.inr rfl), rfl⟩, ⟨hF239, hk240⟩⟩
                  · refine ra_load rfl rfl rfl rfl ?_
                    refine ra_iconst rfl ?_
                    refine ra_putB rfl lk_6_32 (Nat.zero_le _) sh_175 rfl rfl (Or.inr rfl) ?_
                    refine ra_new Fr_up (fun s241 hs241 => ?_)
                    have hF242 := Fr_tr (lo := 14) (hi := 177) hF229 hs241 (by omega)
                    have hk243 : s241 (40) = σ (40) := (hs241 (40) (by omega)).trans hk230
                    refine ra_load rfl rfl rfl rfl ?_
                    refine ra_load rfl rfl rfl rfl ?_
                    refine ra_getI rfl lk_6_58 (Nat.zero_le _) sh_175 rfl ?_
                    refine ra_gen (fun z244 hz244 => ?_)
                    refine ra_putI rfl lk_6_108 (Nat.zero_le _) (sh_D hE0) rfl rfl ?_
                    refine ra_new Fr_up (fun s245 hs245 => ?_)
                    have hF246 := Fr_tr (lo := 14) (hi := 177) hF242 hs245 (by omega)
                    have hk247 : s245 (40) = σ (40) := (hs245 (40) (by omega)).trans hk243
                    refine ra_goto rfl rfl ?_
                    refine ra_iconst rfl ?_
                    exact ra_ireturn rfl (ra_okB (Or.inr rfl)) ⟨⟨_, (Or.inr rfl), rfl⟩, ⟨hF246, hk247⟩⟩
                · refine ra_load rfl rfl rfl rfl ?_
                  refine ra_iconst rfl ?_
                  refine ra_putB rfl lk_6_28 (Nat.zero_le _) sh_175 rfl rfl (Or.inr rfl) ?_
                  refine ra_new Fr_up (fun s248 hs248 => ?_)
                  have hF249 := Fr_tr (lo := 14) (hi := 177) hF229 hs248 (by omega)
                  have hk250 : s248 (40) = σ (40) := (hs248 (40) (by omega)).trans hk230
                  refine ra_load rfl rfl rfl rfl ?_
                  refine ra_load rfl rfl rfl rfl ?_
                  refine ra_getI rfl lk_6_58 (Nat.zero_le _) sh_175 rfl ?_
                  refine ra_gen (fun z251 hz251 => ?_)
                  refine ra_putI rfl lk_6_106 (Nat.zero_le _) (sh_D hE0) rfl rfl ?_
                  refine ra_new Fr_up (fun s252 hs252 => ?_)
                  have hF253 := Fr_tr (lo := 14) (hi := 177) hF249 hs252 (by omega)
                  have hk254 : s252 (40) = σ (40) := (hs252 (40) (by omega)).trans hk250
                  refine ra_goto rfl rfl ?_
                  refine ra_iconst rfl ?_
                  exact ra_ireturn rfl (ra_okB (Or.inr rfl)) ⟨⟨_, (Or.inr rfl), rfl⟩, ⟨hF253, hk254⟩⟩
              · refine ra_iconst rfl ?_
                exact ra_ireturn rfl (ra_okB (Or.inl rfl)) ⟨⟨_, (Or.inl rfl), rfl⟩, ⟨hF229, hk230⟩⟩
            · refine ra_load rfl rfl rfl rfl ?_
              refine ra_iconst rfl ?_
              refine ra_bipush rfl (by decide) ?_
              refine ra_cB (sp_106 (by first | omega | (unfold ra_in at *; omega)) (by first | omega | (unfold ra_in at *; omega))) rfl (ct_106 rfl lk_6_54 (Or.inl rfl) sh_175 (Nat.le_of_ble_eq_true rfl)) (fun z256 s255  hz256 hs255 => ?_)
              have hF257 := Fr_tr (lo := 14) (hi := 177) Fr_rf hs255 (by omega)
              have hk258 : s255 (40) = σ (40) := (hs255 (40) (by omega))
              refine ra_ifne rfl rfl (ra_in01 hz256) (fun h259 => ?_) (fun h259 => ?_)
              · refine ra_load rfl rfl rfl rfl ?_
                refine ra_ifeq rfl rfl (ra_in01 hz2) (fun h260 => ?_) (fun h260 => ?_)
                · refine ra_load rfl rfl rfl rfl ?_
                  refine ra_ifeq rfl rfl (ra_in01 hz4) (fun h261 => ?_) (fun h261 => ?_)
                  · refine ra_load rfl rfl rfl rfl ?_
                    refine ra_iconst rfl ?_
                    refine ra_putB rfl lk_6_35 (Nat.zero_le _) sh_175 rfl rfl (Or.inr rfl) ?_
                    refine ra_new Fr_up (fun s262 hs262 => ?_)
                    have hF263 := Fr_tr (lo := 14) (hi := 177) hF257 hs262 (by omega)
                    have hk264 : s262 (40) = σ (40) := (hs262 (40) (by omega)).trans hk258
                    refine ra_load rfl rfl rfl rfl ?_
                    refine ra_load rfl rfl rfl rfl ?_
                    refine ra_getI rfl lk_6_58 (Nat.zero_le _) sh_175 rfl ?_
                    refine ra_gen (fun z265 hz265 => ?_)
                    refine ra_putI rfl lk_6_110 (Nat.zero_le _) (sh_D hE0) rfl rfl ?_
                    refine ra_new Fr_up (fun s266 hs266 => ?_)
                    have hF267 := Fr_tr (lo := 14) (hi := 177) hF263 hs266 (by omega)
                    have hk268 : s266 (40) = σ (40) := (hs266 (40) (by omega)).trans hk264
                    refine ra_iconst rfl ?_
                    exact ra_ireturn rfl (ra_okB (Or.inr rfl)) ⟨⟨_, (Or.inr rfl), rfl⟩, ⟨hF267, hk268⟩⟩
                  · refine ra_load rfl rfl rfl rfl ?_
                    refine ra_iconst rfl ?_
                    refine ra_putB rfl lk_6_32 (Nat.zero_le _) sh_175 rfl rfl (Or.inr rfl) ?_
                    refine ra_new Fr_up (fun s269 hs269 => ?_)
                    have hF270 := Fr_tr (lo := 14) (hi := 177) hF257 hs269 (by omega)
                    have hk271 : s269 (40) = σ (40) := (hs269 (40) (by omega)).trans hk258
                    refine ra_load rfl rfl rfl rfl ?_
                    refine ra_load rfl rfl rfl rfl ?_
                    refine ra_getI rfl lk_6_58 (Nat.zero_le _) sh_175 rfl ?_
                    refine ra_gen (fun z272 hz272 => ?_)
                    refine ra_putI rfl lk_6_108 (Nat.zero_le _) (sh_D hE0) rfl rfl ?_
                    refine ra_new Fr_up (fun s273 hs273 => ?_)
                    have hF274 := Fr_tr (lo := 14) (hi := 177) hF270 hs273 (by omega)
                    have hk275 : s273 (40) = σ (40) := (hs273 (40) (by omega)).trans hk271
                    refine ra_goto rfl rfl ?_
                    refine ra_iconst rfl ?_
                    exact ra_ireturn rfl (ra_okB (Or.inr rfl)) ⟨⟨_, (Or.inr rfl), rfl⟩, ⟨hF274, hk275⟩⟩
                · refine ra_load rfl rfl rfl rfl ?_
                  refine ra_iconst rfl ?_
                  refine ra_putB rfl lk_6_28 (Nat.zero_le _) sh_175 rfl rfl (Or.inr rfl) ?_
                  refine ra_new Fr_up (fun s276 hs276 => ?_)
                  have hF277 := Fr_tr (lo := 14) (hi := 177) hF257 hs276 (by omega)
                  have hk278 : s276 (40) = σ (40) := (hs276 (40) (by omega)).trans hk258
                  refine ra_load rfl rfl rfl rfl ?_
                  refine ra_load rfl rfl rfl rfl ?_
                  refine ra_getI rfl lk_6_58 (Nat.zero_le _) sh_175 rfl ?_
                  refine ra_gen (fun z279 hz279 => ?_)
                  refine ra_putI rfl lk_6_106 (Nat.zero_le _) (sh_D hE0) rfl rfl ?_
                  refine ra_new Fr_up (fun s280 hs280 => ?_)
                  have hF281 := Fr_tr (lo := 14) (hi := 177) hF277 hs280 (by omega)
                  have hk282 : s280 (40) = σ (40) := (hs280 (40) (by omega)).trans hk278
                  refine ra_goto rfl rfl ?_
                  refine ra_iconst rfl ?_
                  exact ra_ireturn rfl (ra_okB (Or.inr rfl)) ⟨⟨_, (Or.inr rfl), rfl⟩, ⟨hF281, hk282⟩⟩
              · refine ra_goto rfl rfl ?_
                refine ra_iconst rfl ?_
                exact ra_ireturn rfl (ra_okB (Or.inl rfl)) ⟨⟨_, (Or.inl rfl), rfl⟩, ⟨hF257, hk258⟩⟩
        · refine ra_goto rfl rfl ?_
          refine ra_load rfl rfl rfl rfl ?_
          refine ra_iconst rfl ?_
          refine ra_cB (sp_107 (by first | omega | (unfold ra_in at *; omega))) rfl (ct_107 rfl lk_6_50 (Or.inl rfl) sh_175 (Nat.le_of_ble_eq_true rfl)) (fun z284 s283  hz284 hs283 => ?_)
          have hF285 := Fr_tr (lo := 14) (hi := 177) Fr_rf hs283 (by omega)
          have hk286 : s283 (40) = σ (40) := (hs283 (40) (by omega))
          exact ra_ireturn rfl (ra_okB hz284) ⟨⟨_, hz284, rfl⟩, ⟨hF285, hk286⟩⟩
    · refine ra_load rfl rfl rfl rfl ?_
      refine ra_iconst rfl ?_
      refine ra_cB (sp_107 (by first | omega | (unfold ra_in at *; omega))) rfl (ct_107 rfl lk_6_50 (Or.inl rfl) sh_175 (Nat.le_of_ble_eq_true rfl)) (fun z288 s287  hz288 hs287 => ?_)
      have hF289 := Fr_tr (lo := 14) (hi := 177) Fr_rf hs287 (by omega)
      have hk290 : s287 (40) = σ (40) := (hs287 (40) (by omega))
      exact ra_ireturn rfl (ra_okB hz288) ⟨⟨_, hz288, rfl⟩, ⟨hF289, hk290⟩⟩
  · refine ra_load rfl rfl rfl rfl ?_
    refine ra_ifne rfl rfl (ra_in01 hz4) (fun h291 => ?_) (fun h291 => ?_)
    · refine ra_load rfl rfl rfl rfl ?_
      refine ra_cIp (sp_4 hE0) rfl (ct_4 rfl lk_6_102 (Or.inl rfl) (sh_D hE0) (Nat.le_of_ble_eq_true rfl)) (fun z293 hz293 => ?_)
      refine ra_ifle rfl rfl hz293 (fun h294 => ?_) (fun h294 => ?_)
      · refine ra_load rfl rfl rfl rfl ?_
        refine ra_ifeq rfl rfl (ra_in01 hz2) (fun h295 => ?_) (fun h295 => ?_)
        · refine ra_load rfl rfl rfl rfl ?_
          refine ra_ifeq rfl rfl (ra_in01 hz4) (fun h296 => ?_) (fun h296 => ?_)
          · refine ra_load rfl rfl rfl rfl ?_
            refine ra_getBw rfl lk_6_35 (Nat.zero_le _) sh_175 rfl (fun z297 hz297 => ?_)
            refine ra_ifeq rfl rfl (ra_in01 hz297) (fun h298 => ?_) (fun h298 => ?_)
            · refine ra_load rfl rfl rfl rfl ?_
              refine ra_ifne rfl rfl (ra_in01 hz2) (fun h299 => ?_) (fun h299 => ?_)
              · refine ra_load rfl rfl rfl rfl ?_
                refine ra_iconst rfl ?_
                refine ra_bipush rfl (by decide) ?_
                refine ra_cB (sp_106 (by first | omega | (unfold ra_in at *; omega)) (by first | omega | (unfold ra_in at *; omega))) rfl (ct_106 rfl lk_6_54 (Or.inl rfl) sh_175 (Nat.le_of_ble_eq_true rfl)) (fun z301 s300  hz301 hs300 => ?_)
                have hF302 := Fr_tr (lo := 14) (hi := 177) Fr_rf hs300 (by omega)
                have hk303 : s300 (40) = σ (40) := (hs300 (40) (by omega))
                refine ra_ifne rfl rfl (ra_in01 hz301) (fun h304 => ?_) (fun h304 => ?_)
                · refine ra_load rfl rfl rfl rfl ?_
                  refine ra_ifeq rfl rfl (ra_in01 hz2) (fun h305 => ?_) (fun h305 => ?_)
                  · refine ra_load rfl rfl rfl rfl ?_
                    refine ra_ifeq rfl rfl (ra_in01 hz4) (fun h306 => ?_) (fun h306 => ?_)
                    · refine ra_load rfl rfl rfl rfl ?_
                      refine ra_iconst rfl ?_
                      refine ra_putB rfl lk_6_35 (Nat.zero_le _) sh_175 rfl rfl (Or.inr rfl) ?_
                      refine ra_new Fr_up (fun s307 hs307 => ?_)
                      have hF308 := Fr_tr (lo := 14) (hi := 177) hF302 hs307 (by omega)
                      have hk309 : s307 (40) = σ (40) := (hs307 (40) (by omega)).trans hk303
                      refine ra_load rfl rfl rfl rfl ?_
                      refine ra_load rfl rfl rfl rfl ?_
                      refine ra_getI rfl lk_6_58 (Nat.zero_le _) sh_175 rfl ?_
                      refine ra_gen (fun z310 hz310 => ?_)
                      refine ra_putI rfl lk_6_110 (Nat.zero_le _) (sh_D hE0) rfl rfl ?_
                      refine ra_new Fr_up (fun s311 hs311 => ?_)
                      have hF312 := Fr_tr (lo := 14) (hi := 177) hF308 hs311 (by omega)
                      have hk313 : s311 (40) = σ (40) := (hs311 (40) (by omega)).trans hk309
                      refine ra_iconst rfl ?_
                      exact ra_ireturn rfl (ra_okB (Or.inr rfl)) ⟨⟨_, (Or.inr rfl), rfl⟩, ⟨hF312, hk313⟩⟩
                    · refine ra_load rfl rfl rfl rfl ?_
                      refine ra_iconst rfl ?_
                      refine ra_putB rfl lk_6_32 (Nat.zero_le _) sh_175 rfl rfl (Or.inr rfl) ?_
                      refine ra_new Fr_up (fun s314 hs314 => ?_)
                      have hF315 := Fr_tr (lo := 14) (hi := 177) hF302 hs314 (by omega)
                      have hk316 : s314 (40) = σ (40) := (hs314 (40) (by omega)).trans hk303
                      refine ra_load rfl rfl rfl rfl ?_
                      refine ra_load rfl rfl rfl rfl ?_
                      refine ra_getI rfl lk_6_58 (Nat.zero_le _) sh_175 rfl ?_
                      refine ra_gen (fun z317 hz317 => ?_)
                      refine ra_putI rfl lk_6_108 (Nat.zero_le _) (sh_D hE0) rfl rfl ?_
                      refine ra_new Fr_up (fun s318 hs318 => ?_)
                      have hF319 := Fr_tr (lo := 14) (hi := 177) hF315 hs318 (by omega)
                      have hk320 : s318 (40) = σ (40) := (hs318 (40) (by omega)).trans hk316
                      refine ra_goto rfl rfl ?_
                      refine ra_iconst rfl ?_
                      exact ra_ireturn rfl (ra_okB (Or.inr rfl)) ⟨⟨_, (Or.inr rfl), rfl⟩, ⟨hF319, hk320⟩⟩
                  · refine ra_load rfl rfl rfl rfl ?_
                    refine ra_iconst rfl ?_
                    refine ra_putB rfl lk_6_28 (Nat.zero_le _) sh_175 rfl rfl (Or.inr rfl) ?_
                    refine ra_new Fr_up (fun s321 hs321 => ?_)
                    have hF322 := Fr_tr (lo := 14) (hi := 177) hF302 hs321 (by omega)
                    have hk323 : s321 (40) = σ (40) := (hs321 (40) (by omega)).trans hk303
                    refine ra_load rfl rfl rfl rfl ?_
                    refine ra_load rfl rfl rfl rfl ?_
                    refine ra_getI rfl lk_6_58 (Nat.zero_le _) sh_175 rfl ?_
                    refine ra_gen (fun z324 hz324 => ?_)
                    refine ra_putI rfl lk_6_106 (Nat.zero_le _) (sh_D hE0) rfl rfl ?_
                    refine ra_new Fr_up (fun s325 hs325 => ?_)
                    have hF326 := Fr_tr (lo := 14) (hi := 177) hF322 hs325 (by omega)
                    have hk327 : s325 (40) = σ (40) := (hs325 (40) (by omega)).trans hk323
                    refine ra_goto rfl rfl ?_
                    refine ra_iconst rfl ?_
                    exact ra_ireturn rfl (ra_okB (Or.inr rfl)) ⟨⟨_, (Or.inr rfl), rfl⟩, ⟨hF326, hk327⟩⟩
                · refine ra_goto rfl rfl ?_
                  refine ra_iconst rfl ?_
                  exact ra_ireturn rfl (ra_okB (Or.inl rfl)) ⟨⟨_, (Or.inl rfl), rfl⟩, ⟨hF302, hk303⟩⟩
              · refine ra_load rfl rfl rfl rfl ?_
                refine ra_ifeq rfl rfl (ra_in01 hz4) (fun h328 => ?_) (fun h328 => ?_)
                · refine ra_load rfl rfl rfl rfl ?_
                  refine ra_iconst rfl ?_
                  refine ra_bipush rfl (by decide) ?_
                  refine ra_cB (sp_106 (by first | omega | (unfold ra_in at *; omega)) (by first | omega | (unfold ra_in at *; omega))) rfl (ct_106 rfl lk_6_54 (Or.inl rfl) sh_175 (Nat.le_of_ble_eq_true rfl)) (fun z330 s329  hz330 hs329 => ?_)
                  have hF331 := Fr_tr (lo := 14) (hi := 177) Fr_rf hs329 (by omega)
                  have hk332 : s329 (40) = σ (40) := (hs329 (40) (by omega))
                  refine ra_ifne rfl rfl (ra_in01 hz330) (fun h333 => ?_) (fun h333 => ?_)
                  · refine ra_load rfl rfl rfl rfl ?_
                    refine ra_ifeq rfl rfl (ra_in01 hz2) (fun h334 => ?_) (fun h334 => ?_)
                    · refine ra_load rfl rfl rfl rfl ?_
                      refine ra_ifeq rfl rfl (ra_in01 hz4) (fun h335 => ?_) (fun h335 => ?_)
                      · refine ra_load rfl rfl rfl rfl ?_
                        refine ra_iconst rfl ?_
                        refine ra_putB rfl lk_6_35 (Nat.zero_le _) sh_175 rfl rfl (Or.inr rfl) ?_
                        refine ra_new Fr_up (fun s336 hs336 => ?_)
                        have hF337 := Fr_tr (lo := 14) (hi := 177) hF331 hs336 (by omega)
                        have hk338 : s336 (40) = σ (40) := (hs336 (40) (by omega)).trans hk332
                        refine ra_load rfl rfl rfl rfl ?_
                        refine ra_load rfl rfl rfl rfl ?_
                        refine ra_getI rfl lk_6_58 (Nat.zero_le _) sh_175 rfl ?_
                        refine ra_gen (fun z339 hz339 => ?_)
                        refine ra_putI rfl lk_6_110 (Nat.zero_le _) (sh_D hE0) rfl rfl ?_
                        refine ra_new Fr_up (fun s340 hs340 => ?_)
                        have hF341 := Fr_tr (lo := 14) (hi := 177) hF337 hs340 (by omega)
                        have hk342 : s340 (40) = σ (40) := (hs340 (40) (by omega)).trans hk338
                        refine ra_iconst rfl ?_
                        exact ra_ireturn rfl (ra_okB (Or.inr rfl)) ⟨⟨_, (Or.inr rfl), rfl⟩, ⟨hF341, hk342⟩⟩
                      · refine ra_load rfl rfl rfl rfl ?_
                        refine ra_iconst rfl ?_
                        refine ra_putB rfl lk_6_32 (Nat.zero_le _) sh_175 rfl rfl (Or.inr rfl) ?_
                        refine ra_new Fr_up (fun s343 hs343 => ?_)
                        have hF344 := Fr_tr (lo := 14) (hi := 177) hF331 hs343 (by omega)
                        have hk345 : s343 (40) = σ (40) := (hs343 (40) (by omega)).trans hk332
                        refine ra_load rfl rfl rfl rfl ?_
                        refine ra_load rfl rfl rfl rfl ?_
                        refine ra_getI rfl lk_6_58 (Nat.zero_le _) sh_175 rfl ?_
                        refine ra_gen (fun z346 hz346 => ?_)
                        refine ra_putI rfl lk_6_108 (Nat.zero_le _) (sh_D hE0) rfl rfl ?_
                        refine ra_new Fr_up (fun s347 hs347 => ?_)
                        have hF348 := Fr_tr (lo := 14) (hi := 177) hF344 hs347 (by omega)
                        have hk349 : s347 (40) = σ (40) := (hs347 (40) (by omega)).trans hk345
                        refine ra_goto rfl rfl ?_
                        refine ra_iconst rfl ?_
                        exact ra_ireturn rfl (ra_okB (Or.inr rfl)) ⟨⟨_, (Or.inr rfl), rfl⟩, ⟨hF348, hk349⟩⟩
                    · refine ra_load rfl rfl rfl rfl ?_
                      refine ra_iconst rfl ?_
                      refine ra_putB rfl lk_6_28 (Nat.zero_le _) sh_175 rfl rfl (Or.inr rfl) ?_
                      refine ra_new Fr_up (fun s350 hs350 => ?_)
                      have hF351 := Fr_tr (lo := 14) (hi := 177) hF331 hs350 (by omega)
                      have hk352 : s350 (40) = σ (40) := (hs350 (40) (by omega)).trans hk332
                      refine ra_load rfl rfl rfl rfl ?_
                      refine ra_load rfl rfl rfl rfl ?_
                      refine ra_getI rfl lk_6_58 (Nat.zero_le _) sh_175 rfl ?_
                      refine ra_gen (fun z353 hz353 => ?_)
                      refine ra_putI rfl lk_6_106 (Nat.zero_le _) (sh_D hE0) rfl rfl ?_
                      refine ra_new Fr_up (fun s354 hs354 => ?_)
                      have hF355 := Fr_tr (lo := 14) (hi := 177) hF351 hs354 (by omega)
                      have hk356 : s354 (40) = σ (40) := (hs354 (40) (by omega)).trans hk352
                      refine ra_goto rfl rfl ?_
                      refine ra_iconst rfl ?_
                      exact ra_ireturn rfl (ra_okB (Or.inr rfl)) ⟨⟨_, (Or.inr rfl), rfl⟩, ⟨hF355, hk356⟩⟩
                  · refine ra_iconst rfl ?_
                    exact ra_ireturn rfl (ra_okB (Or.inl rfl)) ⟨⟨_, (Or.inl rfl), rfl⟩, ⟨hF331, hk332⟩⟩
                · refine ra_load rfl rfl rfl rfl ?_
                  refine ra_iconst rfl ?_
                  refine ra_bipush rfl (by decide) ?_
                  refine ra_cB (sp_106 (by first | omega | (unfold ra_in at *; omega)) (by first | omega | (unfold ra_in at *; omega))) rfl (ct_106 rfl lk_6_54 (Or.inl rfl) sh_175 (Nat.le_of_ble_eq_true rfl)) (fun z358 s357  hz358 hs357 => ?_)
                  have hF359 := Fr_tr (lo := 14) (hi := 177) Fr_rf hs357 (by omega)
                  have hk360 : s357 (40) = σ (40) := (hs357 (40) (by omega))
                  refine ra_ifne rfl rfl (ra_in01 hz358) (fun h361 => ?_) (fun h361 => ?_)
                  · refine ra_load rfl rfl rfl rfl ?_
                    refine ra_ifeq rfl rfl (ra_in01 hz2) (fun h362 => ?_) (fun h362 => ?_)
                    · refine ra_load rfl rfl rfl rfl ?_
                      refine ra_ifeq rfl rfl (ra_in01 hz4) (fun h363 => ?_) (fun h363 => ?_)
                      · refine ra_load rfl rfl rfl rfl ?_
                        refine ra_iconst rfl ?_
                        refine ra_putB rfl lk_6_35 (Nat.zero_le _) sh_175 rfl rfl (Or.inr rfl) ?_
                        refine ra_new Fr_up (fun s364 hs364 => ?_)
                        have hF365 := Fr_tr (lo := 14) (hi := 177) hF359 hs364 (by omega)
                        have hk366 : s364 (40) = σ (40) := (hs364 (40) (by omega)).trans hk360
                        refine ra_load rfl rfl rfl rfl ?_
                        refine ra_load rfl rfl rfl rfl ?_
                        refine ra_getI rfl lk_6_58 (Nat.zero_le _) sh_175 rfl ?_
                        refine ra_gen (fun z367 hz367 => ?_)
                        refine ra_putI rfl lk_6_110 (Nat.zero_le _) (sh_D hE0) rfl rfl ?_
                        refine ra_new Fr_up (fun s368 hs368 => ?_)
                        have hF369 := Fr_tr (lo := 14) (hi := 177) hF365 hs368 (by omega)
                        have hk370 : s368 (40) = σ (40) := (hs368 (40) (by omega)).trans hk366
                        refine ra_iconst rfl ?_
                        exact ra_ireturn rfl (ra_okB (Or.inr rfl)) ⟨⟨_, (Or.inr rfl), rfl⟩, ⟨hF369, hk370⟩⟩
                      · refine ra_load rfl rfl rfl rfl ?_
                        refine ra_iconst rfl ?_
                        refine ra_putB rfl lk_6_32 (Nat.zero_le _) sh_175 rfl rfl (Or.inr rfl) ?_
                        refine ra_new Fr_up (fun s371 hs371 => ?_)
                        have hF372 := Fr_tr (lo := 14) (hi := 177) hF359 hs371 (by omega)
                        have hk373 : s371 (40) = σ (40) := (hs371 (40) (by omega)).trans hk360
                        refine ra_load rfl rfl rfl rfl ?_
                        refine ra_load rfl rfl rfl rfl ?_
                        refine ra_getI rfl lk_6_58 (Nat.zero_le _) sh_175 rfl ?_
                        refine ra_gen (fun z374 hz374 => ?_)
                        refine ra_putI rfl lk_6_108 (Nat.zero_le _) (sh_D hE0) rfl rfl ?_
                        refine ra_new Fr_up (fun s375 hs375 => ?_)
                        have hF376 := Fr_tr (lo := 14) (hi := 177) hF372 hs375 (by omega)
                        have hk377 : s375 (40) = σ (40) := (hs375 (40) (by omega)).trans hk373
                        refine ra_goto rfl rfl ?_
                        refine ra_iconst rfl ?_
                        exact ra_ireturn rfl (ra_okB (Or.inr rfl)) ⟨⟨_, (Or.inr rfl), rfl⟩, ⟨hF376, hk377⟩⟩
                    · refine ra_load rfl rfl rfl rfl ?_
                      refine ra_iconst rfl ?_
                      refine ra_putB rfl lk_6_28 (Nat.zero_le _) sh_175 rfl rfl (Or.inr rfl) ?_
                      refine ra_new Fr_up (fun s378 hs378 => ?_)
                      have hF379 := Fr_tr (lo := 14) (hi := 177) hF359 hs378 (by omega)
                      have hk380 : s378 (40) = σ (40) := (hs378 (40) (by omega)).trans hk360
                      refine ra_load rfl rfl rfl rfl ?_
                      refine ra_load rfl rfl rfl rfl ?_
                      refine ra_getI rfl lk_6_58 (Nat.zero_le _) sh_175 rfl ?_
                      refine ra_gen (fun z381 hz381 => ?_)
                      refine ra_putI rfl lk_6_106 (Nat.zero_le _) (sh_D hE0) rfl rfl ?_
                      refine ra_new Fr_up (fun s382 hs382 => ?_)
                      have hF383 := Fr_tr (lo := 14) (hi := 177) hF379 hs382 (by omega)
                      have hk384 : s382 (40) = σ (40) := (hs382 (40) (by omega)).trans hk380
                      refine ra_goto rfl rfl ?_
                      refine ra_iconst rfl ?_
                      exact ra_ireturn rfl (ra_okB (Or.inr rfl)) ⟨⟨_, (Or.inr rfl), rfl⟩, ⟨hF383, hk384⟩⟩
                  · refine ra_goto rfl rfl ?_
                    refine ra_iconst rfl ?_
                    exact ra_ireturn rfl (ra_okB (Or.inl rfl)) ⟨⟨_, (Or.inl rfl), rfl⟩, ⟨hF359, hk360⟩⟩
            · refine ra_load rfl rfl rfl rfl ?_
              refine ra_iconst rfl ?_
              refine ra_cB (sp_107 (by first | omega | (unfold ra_in at *; omega))) rfl (ct_107 rfl lk_6_50 (Or.inl rfl) sh_175 (Nat.le_of_ble_eq_true rfl)) (fun z386 s385  hz386 hs385 => ?_)
              have hF387 := Fr_tr (lo := 14) (hi := 177) Fr_rf hs385 (by omega)
              have hk388 : s385 (40) = σ (40) := (hs385 (40) (by omega))
              exact ra_ireturn rfl (ra_okB hz386) ⟨⟨_, hz386, rfl⟩, ⟨hF387, hk388⟩⟩
          · refine ra_load rfl rfl rfl rfl ?_
            refine ra_getBw rfl lk_6_32 (Nat.zero_le _) sh_175 rfl (fun z389 hz389 => ?_)
            refine ra_ifeq rfl rfl (ra_in01 hz389) (fun h390 => ?_) (fun h390 => ?_)
            · refine ra_load rfl rfl rfl rfl ?_
              refine ra_ifne rfl rfl (ra_in01 hz2) (fun h391 => ?_) (fun h391 => ?_)
              · refine ra_load rfl rfl rfl rfl ?_
                refine ra_iconst rfl ?_
                refine ra_bipush rfl (by decide) ?_
                refine ra_cB (sp_106 (by first | omega | (unfold ra_in at *; omega)) (by first | omega | (unfold ra_in at *; omega))) rfl (ct_106 rfl lk_6_54 (Or.inl rfl) sh_175 (Nat.le_of_ble_eq_true rfl)) (fun z393 s392  hz393 hs392 => ?_)
                have hF394 := Fr_tr (lo := 14) (hi := 177) Fr_rf hs392 (by omega)
                have hk395 : s392 (40) = σ (40) := (hs392 (40) (by omega))
                refine ra_ifne rfl rfl (ra_in01 hz393) (fun h396 => ?_) (fun h396 => ?_)
                · refine ra_load rfl rfl rfl rfl ?_
                  refine ra_ifeq rfl rfl (ra_in01 hz2) (fun h397 => ?_) (fun h397 => ?_)
                  · refine ra_load rfl rfl rfl rfl ?_
                    refine ra_ifeq rfl rfl (ra_in01 hz4) (fun h398 => ?_) (fun h398 => ?_)
                    · refine ra_load rfl rfl rfl rfl ?_
                      refine ra_iconst rfl ?_
                      refine ra_putB rfl lk_6_35 (Nat.zero_le _) sh_175 rfl rfl (Or.inr rfl) ?_
                      refine ra_new Fr_up (fun s399 hs399 => ?_)
                      have hF400 := Fr_tr (lo := 14) (hi := 177) hF394 hs399 (by omega)
                      have hk401 : s399 (40) = σ (40) := (hs399 (40) (by omega)).trans hk395
                      refine ra_load rfl rfl rfl rfl ?_
                      refine ra_load rfl rfl rfl rfl ?_
                      refine ra_getI rfl lk_6_58 (Nat.zero_le _) sh_175 rfl ?_
                      refine ra_gen (fun z402 hz402 => ?_)
                      refine ra_putI rfl lk_6_110 (Nat.zero_le _) (sh_D hE0) rfl rfl ?_
                      refine ra_new Fr_up (fun s403 hs403 => ?_)
                      have hF404 := Fr_tr (lo := 14) (hi := 177) hF400 hs403 (by omega)
                      have hk405 : s403 (40) = σ (40) := (hs403 (40) (by omega)).trans hk401
                      refine ra_iconst rfl ?_
                      exact ra_ireturn rfl (ra_okB (Or.inr rfl)) ⟨⟨_, (Or.inr rfl), rfl⟩, ⟨hF404, hk405⟩⟩
                    · refine ra_load rfl rfl rfl rfl ?_
                      refine ra_iconst rfl ?_
                      refine ra_putB rfl lk_6_32 (Nat.zero_le _) sh_175 rfl rfl (Or.inr rfl) ?_
                      refine ra_new Fr_up (fun s406 hs406 => ?_)
                      have hF407 := Fr_tr (lo := 14) (hi := 177) hF394 hs406 (by omega)
                      have hk408 : s406 (40) = σ (40) := (hs406 (40) (by omega)).trans hk395
                      refine ra_load rfl rfl rfl rfl ?_
                      refine ra_load rfl rfl rfl rfl ?_
                      refine ra_getI rfl lk_6_58 (Nat.zero_le _) sh_175 rfl ?_
                      refine ra_gen (fun z409 hz409 => ?_)
                      refine ra_putI rfl lk_6_108 (Nat.zero_le _) (sh_D hE0) rfl rfl ?_
                      refine ra_new Fr_up (fun s410 hs410 => ?_)
                      have hF411 := Fr_tr (lo := 14) (hi := 177) hF407 hs410 (by omega)
                      have hk412 : s410 (40) = σ (40) := (hs410 (40) (by omega)).trans hk408
                      refine ra_goto rfl rfl ?_
                      refine ra_iconst rfl ?_
                      exact ra_ireturn rfl (ra_okB (Or.inr rfl)) ⟨⟨_, (Or.inr rfl), rfl⟩, ⟨hF411, hk412⟩⟩
                  · refine ra_load rfl rfl rfl rfl ?_
                    refine ra_iconst rfl ?_
                    refine ra_putB rfl lk_6_28 (Nat.zero_le _) sh_175 rfl rfl (Or.inr rfl) ?_
                    refine ra_new Fr_up (fun s413 hs413 => ?_)
                    have hF414 := Fr_tr (lo := 14) (hi := 177) hF394 hs413 (by omega)
                    have hk415 : s413 (40) = σ (40) := (hs413 (40) (by omega)).trans hk395
                    refine ra_load rfl rfl rfl rfl ?_
                    refine ra_load rfl rfl rfl rfl ?_
                    refine ra_getI rfl lk_6_58 (Nat.zero_le _) sh_175 rfl ?_
                    refine ra_gen (fun z416 hz416 => ?_)
                    refine ra_putI rfl lk_6_106 (Nat.zero_le _) (sh_D hE0) rfl rfl ?_
                    refine ra_new Fr_up (fun s417 hs417 => ?_)
                    have hF418 := Fr_tr (lo := 14) (hi := 177) hF414 hs417 (by omega)
                    have hk419 : s417 (40) = σ (40) := (hs417 (40) (by omega)).trans hk415
                    refine ra_goto rfl rfl ?_
                    refine ra_iconst rfl ?_
                    exact ra_ireturn rfl (ra_okB (Or.inr rfl)) ⟨⟨_, (Or.inr rfl), rfl⟩, ⟨hF418, hk419⟩⟩
                · refine ra_goto rfl rfl ?_
                  refine ra_iconst rfl ?_
                  exact ra_ireturn rfl (ra_okB (Or.inl rfl)) ⟨⟨_, (Or.inl rfl), rfl⟩, ⟨hF394, hk395⟩⟩
              · refine ra_load rfl rfl rfl rfl ?_
                refine ra_ifeq rfl rfl (ra_in01 hz4) (fun h420 => ?_) (fun h420 => ?_)
                · refine ra_load rfl rfl rfl rfl ?_
                  refine ra_iconst rfl ?_
                  refine ra_bipush rfl (by decide) ?_
                  refine ra_cB (sp_106 (by first | omega | (unfold ra_in at *; omega)) (by first | omega | (unfold ra_in at *; omega))) rfl (ct_106 rfl lk_6_54 (Or.inl rfl) sh_175 (Nat.le_of_ble_eq_true rfl)) (fun z422 s421  hz422 hs421 => ?_)
                  have hF423 := Fr_tr (lo := 14) (hi := 177) Fr_rf hs421 (by omega)
                  have hk424 : s421 (40) = σ (40) := (hs421 (40) (by omega))
                  refine ra_ifne rfl rfl (ra_in01 hz422) (fun h425 => ?_) (fun h425 => ?_)
                  · refine ra_load rfl rfl rfl rfl ?_
                    refine ra_ifeq rfl rfl (ra_in01 hz2) (fun h426 => ?_) (fun h426 => ?_)
                    · refine ra_load rfl rfl rfl rfl ?_
                      refine ra_ifeq rfl rfl (ra_in01 hz4) (fun h427 => ?_) (fun h427 => ?_)
                      · refine ra_load rfl rfl rfl rfl ?_
                        refine ra_iconst rfl ?_
                        refine ra_putB rfl lk_6_35 (Nat.zero_le _) sh_175 rfl rfl (Or.inr rfl) ?_
                        refine ra_new Fr_up (fun s428 hs428 => ?_)
                        have hF429 := Fr_tr (lo := 14) (hi := 177) hF423 hs428 (by omega)
                        have hk430 : s428 (40) = σ (40) := (hs428 (40) (by omega)).trans hk424
                        refine ra_load rfl rfl rfl rfl ?_
                        refine ra_load rfl rfl rfl rfl ?_
                        refine ra_getI rfl lk_6_58 (Nat.zero_le _) sh_175 rfl ?_
                        refine ra_gen (fun z431 hz431 => ?_)
                        refine ra_putI rfl lk_6_110 (Nat.zero_le _) (sh_D hE0) rfl rfl ?_
                        refine ra_new Fr_up (fun s432 hs432 => ?_)
                        have hF433 := Fr_tr (lo := 14) (hi := 177) hF429 hs432 (by omega)
                        have hk434 : s432 (40) = σ (40) := (hs432 (40) (by omega)).trans hk430
                        refine ra_iconst rfl ?_
                        exact ra_ireturn rfl (ra_okB (Or.inr rfl)) ⟨⟨_, (Or.inr rfl), rfl⟩, ⟨hF433, hk434⟩⟩
                      · refine ra_load rfl rfl rfl rfl ?_
                        refine ra_iconst rfl ?_
                        refine ra_putB rfl lk_6_32 (Nat.zero_le _) sh_175 rfl rfl (Or.inr rfl) ?_
                        refine ra_new Fr_up (fun s435 hs435 => ?_)
                        have hF436 := Fr_tr (lo := 14) (hi := 177) hF423 hs435 (by omega)
                        have hk437 : s435 (40) = σ (40) := (hs435 (40) (by omega)).trans hk424
                        refine ra_load rfl rfl rfl rfl ?_
                        refine ra_load rfl rfl rfl rfl ?_
                        refine ra_getI rfl lk_6_58 (Nat.zero_le _) sh_175 rfl ?_
                        refine ra_gen (fun z438 hz438 => ?_)
                        refine ra_putI rfl lk_6_108 (Nat.zero_le _) (sh_D hE0) rfl rfl ?_
                        refine ra_new Fr_up (fun s439 hs439 => ?_)
                        have hF440 := Fr_tr (lo := 14) (hi := 177) hF436 hs439 (by omega)
                        have hk441 : s439 (40) = σ (40) := (hs439 (40) (by omega)).trans hk437
                        refine ra_goto rfl rfl ?_
                        refine ra_iconst rfl ?_
                        exact ra_ireturn rfl (ra_okB (Or.inr rfl)) ⟨⟨_, (Or.inr rfl), rfl⟩, ⟨hF440, hk441⟩⟩
                    · refine ra_load rfl rfl rfl rfl ?_
                      refine ra_iconst rfl ?_
                      refine ra_putB rfl lk_6_28 (Nat.zero_le _) sh_175 rfl rfl (Or.inr rfl) ?_
                      refine ra_new Fr_up (fun s442 hs442 => ?_)
                      have hF443 := Fr_tr (lo := 14) (hi := 177) hF423 hs442 (by omega)
                      have hk444 : s442 (40) = σ (40) := (hs442 (40) (by omega)).trans hk424
                      refine ra_load rfl rfl rfl rfl ?_
                      refine ra_load rfl rfl rfl rfl ?_
                      refine ra_getI rfl lk_6_58 (Nat.zero_le _) sh_175 rfl ?_
                      refine ra_gen (fun z445 hz445 => ?_)
                      refine ra_putI rfl lk_6_106 (Nat.zero_le _) (sh_D hE0) rfl rfl ?_
                      refine ra_new Fr_up (fun s446 hs446 => ?_)
                      have hF447 := Fr_tr (lo := 14) (hi := 177) hF443 hs446 (by omega)
                      have hk448 : s446 (40) = σ (40) := (hs446 (40) (by omega)).trans hk444
                      refine ra_goto rfl rfl ?_
                      refine ra_iconst rfl ?_
                      exact ra_ireturn rfl (ra_okB (Or.inr rfl)) ⟨⟨_, (Or.inr rfl), rfl⟩, ⟨hF447, hk448⟩⟩
                  · refine ra_iconst rfl ?_
                    exact ra_ireturn rfl (ra_okB (Or.inl rfl)) ⟨⟨_, (Or.inl rfl), rfl⟩, ⟨hF423, hk424⟩⟩
                · refine ra_load rfl rfl rfl rfl ?_
                  refine ra_iconst rfl ?_
                  refine ra_bipush rfl (by decide) ?_
                  refine ra_cB (sp_106 (by first | omega | (unfold ra_in at *; omega)) (by first | omega | (unfold ra_in at *; omega))) rfl (ct_106 rfl lk_6_54 (Or.inl rfl) sh_175 (Nat.le_of_ble_eq_true rfl)) (fun z450 s449  hz450 hs449 => ?_)
                  have hF451 := Fr_tr (lo := 14) (hi := 177) Fr_rf hs449 (by omega)
                  have hk452 : s449 (40) = σ (40) := (hs449 (40) (by omega))
                  refine ra_ifne rfl rfl (ra_in01 hz450) (fun h453 => ?_) (fun h453 => ?_)
                  · refine ra_load rfl rfl rfl rfl ?_
                    refine ra_ifeq rfl rfl (ra_in01 hz2) (fun h454 => ?_) (fun h454 => ?_)
                    · refine ra_load rfl rfl rfl rfl ?_
                      refine ra_ifeq rfl rfl (ra_in01 hz4) (fun h455 => ?_) (fun h455 => ?_)
                      · refine ra_load rfl rfl rfl rfl ?_
                        refine ra_iconst rfl ?_
                        refine ra_putB rfl lk_6_35 (Nat.zero_le _) sh_175 rfl rfl (Or.inr rfl) ?_
                        refine ra_new Fr_up (fun s456 hs456 => ?_)
                        have hF457 := Fr_tr (lo := 14) (hi := 177) hF451 hs456 (by omega)
                        have hk458 : s456 (40) = σ (40) := (hs456 (40) (by omega)).trans hk452
                        refine ra_load rfl rfl rfl rfl ?_
                        refine ra_load rfl rfl rfl rfl ?_
                        refine ra_getI rfl lk_6_58 (Nat.zero_le _) sh_175 rfl ?_
                        refine ra_gen (fun z459 hz459 => ?_)
                        refine ra_putI rfl lk_6_110 (Nat.zero_le _) (sh_D hE0) rfl rfl ?_
                        refine ra_new Fr_up (fun s460 hs460 => ?_)
                        have hF461 := Fr_tr (lo := 14) (hi := 177) hF457 hs460 (by omega)
                        have hk462 : s460 (40) = σ (40) := (hs460 (40) (by omega)).trans hk458
                        refine ra_iconst rfl ?_
                        exact ra_ireturn rfl (ra_okB (Or.inr rfl)) ⟨⟨_, (Or.inr rfl), rfl⟩, ⟨hF461, hk462⟩⟩
                      · refine ra_load rfl rfl rfl rfl ?_
                        refine ra_iconst rfl ?_
                        refine ra_putB rfl lk_6_32 (Nat.zero_le _) sh_175 rfl rfl (Or.inr rfl) ?_
                        refine ra_new Fr_up (fun s463 hs463 => ?_)
                        have hF464 := Fr_tr (lo := 14) (hi := 177) hF451 hs463 (by omega)
                        have hk465 : s463 (40) = σ (40) := (hs463 (40) (by omega)).trans hk452
                        refine ra_load rfl rfl rfl rfl ?_
                        refine ra_load rfl rfl rfl rfl ?_
                        refine ra_getI rfl lk_6_58 (Nat.zero_le _) sh_175 rfl ?_
                        refine ra_gen (fun z466 hz466 => ?_)
                        refine ra_putI rfl lk_6_108 (Nat.zero_le _) (sh_D hE0) rfl rfl ?_
                        refine ra_new Fr_up (fun s467 hs467 => ?_)
                        have hF468 := Fr_tr (lo := 14) (hi := 177) hF464 hs467 (by omega)
                        have hk469 : s467 (40) = σ (40) := (hs467 (40) (by omega)).trans hk465
                        refine ra_goto rfl rfl ?_
                        refine ra_iconst rfl ?_
                        exact ra_ireturn rfl (ra_okB (Or.inr rfl)) ⟨⟨_, (Or.inr rfl), rfl⟩, ⟨hF468, hk469⟩⟩
                    · refine ra_load rfl rfl rfl rfl ?_
                      refine ra_iconst rfl ?_
                      refine ra_putB rfl lk_6_28 (Nat.zero_le _) sh_175 rfl rfl (Or.inr rfl) ?_
                      refine ra_new Fr_up (fun s470 hs470 => ?_)
                      have hF471 := Fr_tr (lo := 14) (hi := 177) hF451 hs470 (by omega)
                      have hk472 : s470 (40) = σ (40) := (hs470 (40) (by omega)).trans hk452
                      refine ra_load rfl rfl rfl rfl ?_
                      refine ra_load rfl rfl rfl rfl ?_
                      refine ra_getI rfl lk_6_58 (Nat.zero_le _) sh_175 rfl ?_
                      refine ra_gen (fun z473 hz473 => ?_)
                      refine ra_putI rfl lk_6_106 (Nat.zero_le _) (sh_D hE0) rfl rfl ?_
                      refine ra_new Fr_up (fun s474 hs474 => ?_)
                      have hF475 := Fr_tr (lo := 14) (hi := 177) hF471 hs474 (by omega)
                      have hk476 : s474 (40) = σ (40) := (hs474 (40) (by omega)).trans hk472
                      refine ra_goto rfl rfl ?_
                      refine ra_iconst rfl ?_
                      exact ra_ireturn rfl (ra_okB (Or.inr rfl)) ⟨⟨_, (Or.inr rfl), rfl⟩, ⟨hF475, hk476⟩⟩
                  · refine ra_goto rfl rfl ?_
                    refine ra_iconst rfl ?_
                    exact ra_ireturn rfl (ra_okB (Or.inl rfl)) ⟨⟨_, (Or.inl rfl), rfl⟩, ⟨hF451, hk452⟩⟩
            · refine ra_goto rfl rfl ?_
              refine ra_load rfl rfl rfl rfl ?_
              refine ra_iconst rfl ?_
              refine ra_cB (sp_107 (by first | omega | (unfold ra_in at *; omega))) rfl (ct_107 rfl lk_6_50 (Or.inl rfl) sh_175 (Nat.le_of_ble_eq_true rfl)) (fun z478 s477  hz478 hs477 => ?_)
              have hF479 := Fr_tr (lo := 14) (hi := 177) Fr_rf hs477 (by omega)
              have hk480 : s477 (40) = σ (40) := (hs477 (40) (by omega))
              exact ra_ireturn rfl (ra_okB hz478) ⟨⟨_, hz478, rfl⟩, ⟨hF479, hk480⟩⟩
        · refine ra_load rfl rfl rfl rfl ?_
          refine ra_getBw rfl lk_6_28 (Nat.zero_le _) sh_175 rfl (fun z481 hz481 => ?_)
          refine ra_ifeq rfl rfl (ra_in01 hz481) (fun h482 => ?_) (fun h482 => ?_)
          · refine ra_load rfl rfl rfl rfl ?_
            refine ra_ifne rfl rfl (ra_in01 hz2) (fun h483 => ?_) (fun h483 => ?_)
            · refine ra_load rfl rfl rfl rfl ?_
              refine ra_iconst rfl ?_
              refine ra_bipush rfl (by decide) ?_
              refine ra_cB (sp_106 (by first | omega | (unfold ra_in at *; omega)) (by first | omega | (unfold ra_in at *; omega))) rfl (ct_106 rfl lk_6_54 (Or.inl rfl) sh_175 (Nat.le_of_ble_eq_true rfl)) (fun z485 s484  hz485 hs484 => ?_)
              have hF486 := Fr_tr (lo := 14) (hi := 177) Fr_rf hs484 (by omega)
              have hk487 : s484 (40) = σ (40) := (hs484 (40) (by omega))
              refine ra_ifne rfl rfl (ra_in01 hz485) (fun h488 => ?_) (fun h488 => ?_)
              · refine ra_load rfl rfl rfl rfl ?_
                refine ra_ifeq rfl rfl (ra_in01 hz2) (fun h489 => ?_) (fun h489 => ?_)
                · refine ra_load rfl rfl rfl rfl ?_
                  refine ra_ifeq rfl rfl (ra_in01 hz4) (fun h490 => ?_) (fun h490 => ?_)
                  · refine ra_load rfl rfl rfl rfl ?_
                    refine ra_iconst rfl ?_
                    refine ra_putB rfl lk_6_35 (Nat.zero_le _) sh_175 rfl rfl (Or.inr rfl) ?_
                    refine ra_new Fr_up (fun s491 hs491 => ?_)
                    have hF492 := Fr_tr (lo := 14) (hi := 177) hF486 hs491 (by omega)
                    have hk493 : s491 (40) = σ (40) := (hs491 (40) (by omega)).trans hk487
                    refine ra_load rfl rfl rfl rfl ?_
                    refine ra_load rfl rfl rfl rfl ?_
                    refine ra_getI rfl lk_6_58 (Nat.zero_le _) sh_175 rfl ?_
                    refine ra_gen (fun z494 hz494 => ?_)
                    refine ra_putI rfl lk_6_110 (Nat.zero_le _) (sh_D hE0) rfl rfl ?_
                    refine ra_new Fr_up (fun s495 hs495 => ?_)
                    have hF496 := Fr_tr (lo := 14) (hi := 177) hF492 hs495 (by omega)
                    have hk497 : s495 (40) = σ (40) := (hs495 (40) (by omega)).trans hk493
                    refine ra_iconst rfl ?_
                    exact ra_ireturn rfl (ra_okB (Or.inr rfl)) ⟨⟨_, (Or.inr rfl), rfl⟩, ⟨hF496, hk497⟩⟩
                  · refine ra_load rfl rfl rfl rfl ?_
                    refine ra_iconst rfl ?_
                    refine ra_putB rfl lk_6_32 (Nat.zero_le _) sh_175 rfl rfl (Or.inr rfl) ?_
                    refine ra_new Fr_up (fun s498 hs498 => ?_)
                    have hF499 := Fr_tr (lo := 14) (hi := 177) hF486 hs498 (by omega)
                    have hk500 : s498 (40) = σ (40) := (hs498 (40) (by omega)).trans hk487
                    refine ra_load rfl rfl rfl rfl ?_
                    refine ra_load rfl rfl rfl rfl ?_
                    refine ra_getI rfl lk_6_58 (Nat.zero_le _) sh_175 rfl ?_
                    refine ra_gen (fun z501 hz501 => ?_)
                    refine ra_putI rfl lk_6_108 (Nat.zero_le _) (sh_D hE0) rfl rfl ?_
                    refine ra_new Fr_up (fun s502 hs502 => ?_)
                    have hF503 := Fr_tr (lo := 14) (hi := 177) hF499 hs502 (by omega)
                    have hk504 : s502 (40) = σ (40) := (hs502 (40) (by omega)).trans hk500
                    refine ra_goto rfl rfl ?_
                    refine ra_iconst rfl ?_
                    exact ra_ireturn rfl (ra_okB (Or.inr rfl)) ⟨⟨_, (Or.inr rfl), rfl⟩, ⟨hF503, hk504⟩⟩
                · refine ra_load rfl rfl rfl rfl ?_
                  refine ra_iconst rfl ?_
                  refine ra_putB rfl lk_6_28 (Nat.zero_le _) sh_175 rfl rfl (Or.inr rfl) ?_
                  refine ra_new Fr_up (fun s505 hs505 => ?_)
                  have hF506 := Fr_tr (lo := 14) (hi := 177) hF486 hs505 (by omega)
                  have hk507 : s505 (40) = σ (40) := (hs505 (40) (by omega)).trans hk487
                  refine ra_load rfl rfl rfl rfl ?_
                  refine ra_load rfl rfl rfl rfl ?_
                  refine ra_getI rfl lk_6_58 (Nat.zero_le _) sh_175 rfl ?_
                  refine ra_gen (fun z508 hz508 => ?_)
                  refine ra_putI rfl lk_6_106 (Nat.zero_le _) (sh_D hE0) rfl rfl ?_
                  refine ra_new Fr_up (fun s509 hs509 => ?_)
                  have hF510 := Fr_tr (lo := 14) (hi := 177) hF506 hs509 (by omega)
                  have hk511 : s509 (40) = σ (40) := (hs509 (40) (by omega)).trans hk507
                  refine ra_goto rfl rfl ?_
                  refine ra_iconst rfl ?_
                  exact ra_ireturn rfl (ra_okB (Or.inr rfl)) ⟨⟨_, (Or.inr rfl), rfl⟩, ⟨hF510, hk511⟩⟩
              · refine ra_goto rfl rfl ?_
                refine ra_iconst rfl ?_
                exact ra_ireturn rfl (ra_okB (Or.inl rfl)) ⟨⟨_, (Or.inl rfl), rfl⟩, ⟨hF486, hk487⟩⟩
            · refine ra_load rfl rfl rfl rfl ?_
              refine ra_ifeq rfl rfl (ra_in01 hz4) (fun h512 => ?_) (fun h512 => ?_)
              · refine ra_load rfl rfl rfl rfl ?_
                refine ra_iconst rfl ?_
                refine ra_bipush rfl (by decide) ?_
                refine ra_cB (sp_106 (by first | omega | (unfold ra_in at *; omega)) (by first | omega | (unfold ra_in at *; omega))) rfl (ct_106 rfl lk_6_54 (Or.inl rfl) sh_175 (Nat.le_of_ble_eq_true rfl)) (fun z514 s513  hz514 hs513 => ?_)
                have hF515 := Fr_tr (lo := 14) (hi := 177) Fr_rf hs513 (by omega)
                have hk516 : s513 (40) = σ (40) := (hs513 (40) (by omega))
                refine ra_ifne rfl rfl (ra_in01 hz514) (fun h517 => ?_) (fun h517 => ?_)
                · refine ra_load rfl rfl rfl rfl ?_
                  refine ra_ifeq rfl rfl (ra_in01 hz2) (fun h518 => ?_) (fun h518 => ?_)
                  · refine ra_load rfl rfl rfl rfl ?_
                    refine ra_ifeq rfl rfl (ra_in01 hz4) (fun h519 => ?_) (fun h519 => ?_)
                    · refine ra_load rfl rfl rfl rfl ?_
                      refine ra_iconst rfl ?_
                      refine ra_putB rfl lk_6_35 (Nat.zero_le _) sh_175 rfl rfl (Or.inr rfl) ?_
                      refine ra_new Fr_up (fun s520 hs520 => ?_)
                      have hF521 := Fr_tr (lo := 14) (hi := 177) hF515 hs520 (by omega)
                      have hk522 : s520 (40) = σ (40) := (hs520 (40) (by omega)).trans hk516
                      refine ra_load rfl rfl rfl rfl ?_
                      refine ra_load rfl rfl rfl rfl ?_
                      refine ra_getI rfl lk_6_58 (Nat.zero_le _) sh_175 rfl ?_
                      refine ra_gen (fun z523 hz523 => ?_)
                      refine ra_putI rfl lk_6_110 (Nat.zero_le _) (sh_D hE0) rfl rfl ?_
                      refine ra_new Fr_up (fun s524 hs524 => ?_)
                      have hF525 := Fr_tr (lo := 14) (hi := 177) hF521 hs524 (by omega)
                      have hk526 : s524 (40) = σ (40) := (hs524 (40) (by omega)).trans hk522
                      refine ra_iconst rfl ?_
                      exact ra_ireturn rfl (ra_okB (Or.inr rfl)) ⟨⟨_, (Or.inr rfl), rfl⟩, ⟨hF525, hk526⟩⟩
                    · refine ra_load rfl rfl rfl rfl ?_
                      refine ra_iconst rfl ?_
                      refine ra_putB rfl lk_6_32 (Nat.zero_le _) sh_175 rfl rfl (Or.inr rfl) ?_
                      refine ra_new Fr_up (fun s527 hs527 => ?_)
                      have hF528 := Fr_tr (lo := 14) (hi := 177) hF515 hs527 (by omega)
                      have hk529 : s527 (40) = σ (40) := (hs527 (40) (by omega)).trans hk516
                      refine ra_load rfl rfl rfl rfl ?_
                      refine ra_load rfl rfl rfl rfl ?_
                      refine ra_getI rfl lk_6_58 (Nat.zero_le _) sh_175 rfl ?_
                      refine ra_gen (fun z530 hz530 => ?_)
                      refine ra_putI rfl lk_6_108 (Nat.zero_le _) (sh_D hE0) rfl rfl ?_
                      refine ra_new Fr_up (fun s531 hs531 => ?_)
                      have hF532 := Fr_tr (lo := 14) (hi := 177) hF528 hs531 (by omega)
                      have hk533 : s531 (40) = σ (40) := (hs531 (40) (by omega)).trans hk529
                      refine ra_goto rfl rfl ?_
                      refine ra_iconst rfl ?_
                      exact ra_ireturn rfl (ra_okB (Or.inr rfl)) ⟨⟨_, (Or.inr rfl), rfl⟩, ⟨hF532, hk533⟩⟩
                  · refine ra_load rfl rfl rfl rfl ?_
                    refine ra_iconst rfl ?_
                    refine ra_putB rfl lk_6_28 (Nat.zero_le _) sh_175 rfl rfl (Or.inr rfl) ?_
                    refine ra_new Fr_up (fun s534 hs534 => ?_)
                    have hF535 := Fr_tr (lo := 14) (hi := 177) hF515 hs534 (by omega)
                    have hk536 : s534 (40) = σ (40) := (hs534 (40) (by omega)).trans hk516
                    refine ra_load rfl rfl rfl rfl ?_
                    refine ra_load rfl rfl rfl rfl ?_
                    refine ra_getI rfl lk_6_58 (Nat.zero_le _) sh_175 rfl ?_
                    refine ra_gen (fun z537 hz537 => ?_)
                    refine ra_putI rfl lk_6_106 (Nat.zero_le _) (sh_D hE0) rfl rfl ?_
                    refine ra_new Fr_up (fun s538 hs538 => ?_)
                    have hF539 := Fr_tr (lo := 14) (hi := 177) hF535 hs538 (by omega)
                    have hk540 : s538 (40) = σ (40) := (hs538 (40) (by omega)).trans hk536
                    refine ra_goto rfl rfl ?_
                    refine ra_iconst rfl ?_
                    exact ra_ireturn rfl (ra_okB (Or.inr rfl)) ⟨⟨_, (Or.inr rfl), rfl⟩, ⟨hF539, hk540⟩⟩
                · refine ra_iconst rfl ?_
                  exact ra_ireturn rfl (ra_okB (Or.inl rfl)) ⟨⟨_, (Or.inl rfl), rfl⟩, ⟨hF515, hk516⟩⟩
              · refine ra_load rfl rfl rfl rfl ?_
                refine ra_iconst rfl ?_
                refine ra_bipush rfl (by decide) ?_
                refine ra_cB (sp_106 (by first | omega | (unfold ra_in at *; omega)) (by first | omega | (unfold ra_in at *; omega))) rfl (ct_106 rfl lk_6_54 (Or.inl rfl) sh_175 (Nat.le_of_ble_eq_true rfl)) (fun z542 s541  hz542 hs541 => ?_)
                have hF543 := Fr_tr (lo := 14) (hi := 177) Fr_rf hs541 (by omega)
                have hk544 : s541 (40) = σ (40) := (hs541 (40) (by omega))
                refine ra_ifne rfl rfl (ra_in01 hz542) (fun h545 => ?_) (fun h545 => ?_)
                · refine ra_load rfl rfl rfl rfl ?_
                  refine ra_ifeq rfl rfl (ra_in01 hz2) (fun h546 => ?_) (fun h546 => ?_)
                  · refine ra_load rfl rfl rfl rfl ?_
                    refine ra_ifeq rfl rfl (ra_in01 hz4) (fun h547 => ?_) (fun h547 => ?_)
                    · refine ra_load rfl rfl rfl rfl ?_
                      refine ra_iconst rfl ?_
                      refine ra_putB rfl lk_6_35 (Nat.zero_le _) sh_175 rfl rfl (Or.inr rfl) ?_
                      refine ra_new Fr_up (fun s548 hs548 => ?_)
                      have hF549 := Fr_tr (lo := 14) (hi := 177) hF543 hs548 (by omega)
                      have hk550 : s548 (40) = σ (40) := (hs548 (40) (by omega)).trans hk544
                      refine ra_load rfl rfl rfl rfl ?_
                      refine ra_load rfl rfl rfl rfl ?_
                      refine ra_getI rfl lk_6_58 (Nat.zero_le _) sh_175 rfl ?_
                      refine ra_gen (fun z551 hz551 => ?_)
                      refine ra_putI rfl lk_6_110 (Nat.zero_le _) (sh_D hE0) rfl rfl ?_
                      refine ra_new Fr_up (fun s552 hs552 => ?_)
                      have hF553 := Fr_tr (lo := 14) (hi := 177) hF549 hs552 (by omega)
                      have hk554 : s552 (40) = σ (40) := (hs552 (40) (by omega)).trans hk550
                      refine ra_iconst rfl ?_
                      exact ra_ireturn rfl (ra_okB (Or.inr rfl)) ⟨⟨_, (Or.inr rfl), rfl⟩, ⟨hF553, hk554⟩⟩
                    · refine ra_load rfl rfl rfl rfl ?_
                      refine ra_iconst rfl ?_
                      refine ra_putB rfl lk_6_32 (Nat.zero_le _) sh_175 rfl rfl (Or.inr rfl) ?_
                      refine ra_new Fr_up (fun s555 hs555 => ?_)
                      have hF556 := Fr_tr (lo := 14) (hi := 177) hF543 hs555 (by omega)
                      have hk557 : s555 (40) = σ (40) := (hs555 (40) (by omega)).trans hk544
                      refine ra_load rfl rfl rfl rfl ?_
                      refine ra_load rfl rfl rfl rfl ?_
                      refine ra_getI rfl lk_6_58 (Nat.zero_le _) sh_175 rfl ?_
                      refine ra_gen (fun z558 hz558 => ?_)
                      refine ra_putI rfl lk_6_108 (Nat.zero_le _) (sh_D hE0) rfl rfl ?_
                      refine ra_new Fr_up (fun s559 hs559 => ?_)
                      have hF560 := Fr_tr (lo := 14) (hi := 177) hF556 hs559 (by omega)
                      have hk561 : s559 (40) = σ (40) := (hs559 (40) (by omega)).trans hk557
                      refine ra_goto rfl rfl ?_
                      refine ra_iconst rfl ?_
                      exact ra_ireturn rfl (ra_okB (Or.inr rfl)) ⟨⟨_, (Or.inr rfl), rfl⟩, ⟨hF560, hk561⟩⟩
                  · refine ra_load rfl rfl rfl rfl ?_
                    refine ra_iconst rfl ?_
                    refine ra_putB rfl lk_6_28 (Nat.zero_le _) sh_175 rfl rfl (Or.inr rfl) ?_
                    refine ra_new Fr_up (fun s562 hs562 => ?_)
                    have hF563 := Fr_tr (lo := 14) (hi := 177) hF543 hs562 (by omega)
                    have hk564 : s562 (40) = σ (40) := (hs562 (40) (by omega)).trans hk544
                    refine ra_load rfl rfl rfl rfl ?_
                    refine ra_load rfl rfl rfl rfl ?_
                    refine ra_getI rfl lk_6_58 (Nat.zero_le _) sh_175 rfl ?_
                    refine ra_gen (fun z565 hz565 => ?_)
                    refine ra_putI rfl lk_6_106 (Nat.zero_le _) (sh_D hE0) rfl rfl ?_
                    refine ra_new Fr_up (fun s566 hs566 => ?_)
                    have hF567 := Fr_tr (lo := 14) (hi := 177) hF563 hs566 (by omega)
                    have hk568 : s566 (40) = σ (40) := (hs566 (40) (by omega)).trans hk564
                    refine ra_goto rfl rfl ?_
                    refine ra_iconst rfl ?_
                    exact ra_ireturn rfl (ra_okB (Or.inr rfl)) ⟨⟨_, (Or.inr rfl), rfl⟩, ⟨hF567, hk568⟩⟩
                · refine ra_goto rfl rfl ?_
                  refine ra_iconst rfl ?_
                  exact ra_ireturn rfl (ra_okB (Or.inl rfl)) ⟨⟨_, (Or.inl rfl), rfl⟩, ⟨hF543, hk544⟩⟩
          · refine ra_goto rfl rfl ?_
            refine ra_load rfl rfl rfl rfl ?_
            refine ra_iconst rfl ?_
            refine ra_cB (sp_107 (by first | omega | (unfold ra_in at *; omega))) rfl (ct_107 rfl lk_6_50 (Or.inl rfl) sh_175 (Nat.le_of_ble_eq_true rfl)) (fun z570 s569  hz570 hs569 => ?_)
            have hF571 := Fr_tr (lo := 14) (hi := 177) Fr_rf hs569 (by omega)
            have hk572 : s569 (40) = σ (40) := (hs569 (40) (by omega))
            exact ra_ireturn rfl (ra_okB hz570) ⟨⟨_, hz570, rfl⟩, ⟨hF571, hk572⟩⟩
      · refine ra_load rfl rfl rfl rfl ?_
        refine ra_iconst rfl ?_
        refine ra_cB (sp_107 (by first | omega | (unfold ra_in at *; omega))) rfl (ct_107 rfl lk_6_50 (Or.inl rfl) sh_175 (Nat.le_of_ble_eq_true rfl)) (fun z574 s573  hz574 hs573 => ?_)
        have hF575 := Fr_tr (lo := 14) (hi := 177) Fr_rf hs573 (by omega)
        have hk576 : s573 (40) = σ (40) := (hs573 (40) (by omega))
        exact ra_ireturn rfl (ra_okB hz574) ⟨⟨_, hz574, rfl⟩, ⟨hF575, hk576⟩⟩
    · refine ra_load rfl rfl rfl rfl ?_
      refine ra_ldcS rfl lk_6_100 ?_
      refine ra_cBp (sp_112 lk_6_100 (by decide)) rfl (ct_112 rfl lk_6_46 (Or.inl rfl) sh_175 (Nat.le_of_ble_eq_true rfl)) (fun z578 hz578 => ?_)
      refine ra_ifeq rfl rfl (ra_in01 hz578) (fun h579 => ?_) (fun h579 => ?_)
      · refine ra_load rfl rfl rfl rfl ?_
        refine ra_iconst rfl ?_
        refine ra_cB (sp_107 (by first | omega | (unfold ra_in at *; omega))) rfl (ct_107 rfl lk_6_50 (Or.inl rfl) sh_175 (Nat.le_of_ble_eq_true rfl)) (fun z581 s580  hz581 hs580 => ?_)
        have hF582 := Fr_tr (lo := 14) (hi := 177) Fr_rf hs580 (by omega)
        have hk583 : s580 (40) = σ (40) := (hs580 (40) (by omega))
        exact ra_ireturn rfl (ra_okB hz581) ⟨⟨_, hz581, rfl⟩, ⟨hF582, hk583⟩⟩
      · refine ra_load rfl rfl rfl rfl ?_
        refine ra_cIp (sp_4 hE0) rfl (ct_4 rfl lk_6_102 (Or.inl rfl) (sh_D hE0) (Nat.le_of_ble_eq_true rfl)) (fun z585 hz585 => ?_)
        refine ra_ifle rfl rfl hz585 (fun h586 => ?_) (fun h586 => ?_)
        · refine ra_load rfl rfl rfl rfl ?_
          refine ra_ifeq rfl rfl (ra_in01 hz2) (fun h587 => ?_) (fun h587 => ?_)
          · refine ra_load rfl rfl rfl rfl ?_
            refine ra_ifeq rfl rfl (ra_in01 hz4) (fun h588 => ?_) (fun h588 => ?_)
            · refine ra_load rfl rfl rfl rfl ?_
              refine ra_getBw rfl lk_6_35 (Nat.zero_le _) sh_175 rfl (fun z589 hz589 => ?_)
              refine ra_ifeq rfl rfl (ra_in01 hz589) (fun h590 => ?_) (fun h590 => ?_)
              · refine ra_load rfl rfl rfl rfl ?_
                refine ra_ifne rfl rfl (ra_in01 hz2) (fun h591 => ?_) (fun h591 => ?_)
                · refine ra_load rfl rfl rfl rfl ?_
                  refine ra_iconst rfl ?_
                  refine ra_bipush rfl (by decide) ?_
                  refine ra_cB (sp_106 (by first | omega | (unfold ra_in at *; omega)) (by first | omega | (unfold ra_in at *; omega))) rfl (ct_106 rfl lk_6_54 (Or.inl rfl) sh_175 (Nat.le_of_ble_eq_true rfl)) (fun z593 s592  hz593 hs592 => ?_)
                  have hF594 := Fr_tr (lo := 14) (hi := 177) Fr_rf hs592 (by omega)
                  have hk595 : s592 (40) = σ (40) := (hs592 (40) (by omega))
                  refine ra_ifne rfl rfl (ra_in01 hz593) (fun h596 => ?_) (fun h596 => ?_)
                  · refine ra_load rfl rfl rfl rfl ?_
                    refine ra_ifeq rfl rfl (ra_in01 hz2) (fun h597 => ?_) (fun h597 => ?_)
                    · refine ra_load rfl rfl rfl rfl ?_
                      refine ra_ifeq rfl rfl (ra_in01 hz4) (fun h598 => ?_) (fun h598 => ?_)
                      · refine ra_load rfl rfl rfl rfl ?_
                        refine ra_iconst rfl ?_
                        refine ra_putB rfl lk_6_35 (Nat.zero_le _) sh_175 rfl rfl (Or.inr rfl) ?_
                        refine ra_new Fr_up (fun s599 hs599 => ?_)
                        have hF600 := Fr_tr (lo := 14) (hi := 177) hF594 hs599 (by omega)
                        have hk601 : s599 (40) = σ (40) := (hs599 (40) (by omega)).trans hk595
                        refine ra_load rfl rfl rfl rfl ?_
                        refine ra_load rfl rfl rfl rfl ?_
                        refine ra_getI rfl lk_6_58 (Nat.zero_le _) sh_175 rfl ?_
                        refine ra_gen (fun z602 hz602 => ?_)
                        refine ra_putI rfl lk_6_110 (Nat.zero_le _) (sh_D hE0) rfl rfl ?_
                        refine ra_new Fr_up (fun s603 hs603 => ?_)
                        have hF604 := Fr_tr (lo := 14) (hi := 177) hF600 hs603 (by omega)
                        have hk605 : s603 (40) = σ (40) := (hs603 (40) (by omega)).trans hk601
                        refine ra_iconst rfl ?_
                        exact ra_ireturn rfl (ra_okB (Or.inr rfl)) ⟨⟨_, (Or.inr rfl), rfl⟩, ⟨hF604, hk605⟩⟩
                      · refine ra_load rfl rfl rfl rfl ?_
                        refine ra_iconst rfl ?_
                        refine ra_putB rfl lk_6_32 (Nat.zero_le _) sh_175 rfl rfl (Or.inr rfl) ?_
                        refine ra_new Fr_up (fun s606 hs606 => ?_)
                        have hF607 := Fr_tr (lo := 14) (hi := 177) hF594 hs606 (by omega)
                        have hk608 : s606 (40) = σ (40) := (hs606 (40) (by omega)).trans hk595
                        refine ra_load rfl rfl rfl rfl ?_
                        refine ra_load rfl rfl rfl rfl ?_
                        refine ra_getI rfl lk_6_58 (Nat.zero_le _) sh_175 rfl ?_
                        refine ra_gen (fun z609 hz609 => ?_)
                        refine ra_putI rfl lk_6_108 (Nat.zero_le _) (sh_D hE0) rfl rfl ?_
                        refine ra_new Fr_up (fun s610 hs610 => ?_)
                        have hF611 := Fr_tr (lo := 14) (hi := 177) hF607 hs610 (by omega)
                        have hk612 : s610 (40) = σ (40) := (hs610 (40) (by omega)).trans hk608
                        refine ra_goto rfl rfl ?_
                        refine ra_iconst rfl ?_
                        exact ra_ireturn rfl (ra_okB (Or.inr rfl)) ⟨⟨_, (Or.inr rfl), rfl⟩, ⟨hF611, hk612⟩⟩
                    · refine ra_load rfl rfl rfl rfl ?_
                      refine ra_iconst rfl ?_
                      refine ra_putB rfl lk_6_28 (Nat.zero_le _) sh_175 rfl rfl (Or.inr rfl) ?_
                      refine ra_new Fr_up (fun s613 hs613 => ?_)
                      have hF614 := Fr_tr (lo := 14) (hi := 177) hF594 hs613 (by omega)
                      have hk615 : s613 (40) = σ (40) := (hs613 (40) (by omega)).trans hk595
                      refine ra_load rfl rfl rfl rfl ?_
                      refine ra_load rfl rfl rfl rfl ?_
                      refine ra_getI rfl lk_6_58 (Nat.zero_le _) sh_175 rfl ?_
                      refine ra_gen (fun z616 hz616 => ?_)
                      refine ra_putI rfl lk_6_106 (Nat.zero_le _) (sh_D hE0) rfl rfl ?_
                      refine ra_new Fr_up (fun s617 hs617 => ?_)
                      have hF618 := Fr_tr (lo := 14) (hi := 177) hF614 hs617 (by omega)
                      have hk619 : s617 (40) = σ (40) := (hs617 (40) (by omega)).trans hk615
                      refine ra_goto rfl rfl ?_
                      refine ra_iconst rfl ?_
                      exact ra_ireturn rfl (ra_okB (Or.inr rfl)) ⟨⟨_, (Or.inr rfl), rfl⟩, ⟨hF618, hk619⟩⟩
                  · refine ra_goto rfl rfl ?_
                    refine ra_iconst rfl ?_
                    exact ra_ireturn rfl (ra_okB (Or.inl rfl)) ⟨⟨_, (Or.inl rfl), rfl⟩, ⟨hF594, hk595⟩⟩
                · refine ra_load rfl rfl rfl rfl ?_
                  refine ra_ifeq rfl rfl (ra_in01 hz4) (fun h620 => ?_) (fun h620 => ?_)
                  · refine ra_load rfl rfl rfl rfl ?_
                    refine ra_iconst rfl ?_
                    refine ra_bipush rfl (by decide) ?_
                    refine ra_cB (sp_106 (by first | omega | (unfold ra_in at *; omega)) (by first | omega | (unfold ra_in at *; omega))) rfl (ct_106 rfl lk_6_54 (Or.inl rfl) sh_175 (Nat.le_of_ble_eq_true rfl)) (fun z622 s621  hz622 hs621 => ?_)
                    have hF623 := Fr_tr (lo := 14) (hi := 177) Fr_rf hs621 (by omega)
                    have hk624 : s621 (40) = σ (40) := (hs621 (40) (by omega))
                    refine ra_ifne rfl rfl (ra_in01 hz622) (fun h625 => ?_) (fun h625 => ?_)
                    · refine ra_load rfl rfl rfl rfl ?_
                      refine ra_ifeq rfl rfl (ra_in01 hz2) (fun h626 => ?_) (fun h626 => ?_)
                      · refine ra_load rfl rfl rfl rfl ?_
                        refine ra_ifeq rfl rfl (ra_in01 hz4) (fun h627 => ?_) (fun h627 => ?_)
                        · refine ra_load rfl rfl rfl rfl ?_
                          refine ra_iconst rfl ?_
                          refine ra_putB rfl lk_6_35 (Nat.zero_le _) sh_175 rfl rfl (Or.inr rfl) ?_
                          refine ra_new Fr_up (fun s628 hs628 => ?_)
                          have hF629 := Fr_tr (lo := 14) (hi := 177) hF623 hs628 (by omega)
                          have hk630 : s628 (40) = σ (40) := (hs628 (40) (by omega)).trans hk624
                          refine ra_load rfl rfl rfl rfl ?_
                          refine ra_load rfl rfl rfl rfl ?_
                          refine ra_getI rfl lk_6_58 (Nat.zero_le _) sh_175 rfl ?_
                          refine ra_gen (fun z631 hz631 => ?_)
                          refine ra_putI rfl lk_6_110 (Nat.zero_le _) (sh_D hE0) rfl rfl ?_
                          refine ra_new Fr_up (fun s632 hs632 => ?_)
                          have hF633 := Fr_tr (lo := 14) (hi := 177) hF629 hs632 (by omega)
                          have hk634 : s632 (40) = σ (40) := (hs632 (40) (by omega)).trans hk630
                          refine ra_iconst rfl ?_
                          exact ra_ireturn rfl (ra_okB (Or.inr rfl)) ⟨⟨_, (Or.inr rfl), rfl⟩, ⟨hF633, hk634⟩⟩
                        · refine ra_load rfl rfl rfl rfl ?_
                          refine ra_iconst rfl ?_
                          refine ra_putB rfl lk_6_32 (Nat.zero_le _) sh_175 rfl rfl (Or.inr rfl) ?_
                          refine ra_new Fr_up (fun s635 hs635 => ?_)
                          have hF636 := Fr_tr (lo := 14) (hi := 177) hF623 hs635 (by omega)
                          have hk637 : s635 (40) = σ (40) := (hs635 (40) (by omega)).trans hk624
                          refine ra_load rfl rfl rfl rfl ?_
                          refine ra_load rfl rfl rfl rfl ?_
                          refine ra_getI rfl lk_6_58 (Nat.zero_le _) sh_175 rfl ?_
                          refine ra_gen (fun z638 hz638 => ?_)
                          refine ra_putI rfl lk_6_108 (Nat.zero_le _) (sh_D hE0) rfl rfl ?_
                          refine ra_new Fr_up (fun s639 hs639 => ?_)
                          have hF640 := Fr_tr (lo := 14) (hi := 177) hF636 hs639 (by omega)
                          have hk641 : s639 (40) = σ (40) := (hs639 (40) (by omega)).trans hk637
                          refine ra_goto rfl rfl ?_
                          refine ra_iconst rfl ?_
                          exact ra_ireturn rfl (ra_okB (Or.inr rfl)) ⟨⟨_, (Or.inr rfl), rfl⟩, ⟨hF640, hk641⟩⟩
                      · refine ra_load rfl rfl rfl rfl ?_
                        refine ra_iconst rfl ?_
                        refine ra_putB rfl lk_6_28 (Nat.zero_le _) sh_175 rfl rfl (Or.inr rfl) ?_
                        refine ra_new Fr_up (fun s642 hs642 => ?_)
                        have hF643 := Fr_tr (lo := 14) (hi := 177) hF623 hs642 (by omega)
                        have hk644 : s642 (40) = σ (40) := (hs642 (40) (by omega)).trans hk624
                        refine ra_load rfl rfl rfl rfl ?_
                        refine ra_load rfl rfl rfl rfl ?_
                        refine ra_getI rfl lk_6_58 (Nat.zero_le _) sh_175 rfl ?_
                        refine ra_gen (fun z645 hz645 => ?_)
                        refine ra_putI rfl lk_6_106 (Nat.zero_le _) (sh_D hE0) rfl rfl ?_
                        refine ra_new Fr_up (fun s646 hs646 => ?_)
                        have hF647 := Fr_tr (lo := 14) (hi := 177) hF643 hs646 (by omega)
                        have hk648 : s646 (40) = σ (40) := (hs646 (40) (by omega)).trans hk644
                        refine ra_goto rfl rfl ?_
                        refine ra_iconst rfl ?_
                        exact ra_ireturn rfl (ra_okB (Or.inr rfl)) ⟨⟨_, (Or.inr rfl), rfl⟩, ⟨hF647, hk648⟩⟩
                    · refine ra_iconst rfl ?_
                      exact ra_ireturn rfl (ra_okB (Or.inl rfl)) ⟨⟨_, (Or.inl rfl), rfl⟩, ⟨hF623, hk624⟩⟩
                  · refine ra_load rfl rfl rfl rfl ?_
                    refine ra_iconst rfl ?_
                    refine ra_bipush rfl (by decide) ?_
                    refine ra_cB (sp_106 (by first | omega | (unfold ra_in at *; omega)) (by first | omega | (unfold ra_in at *; omega))) rfl (ct_106 rfl lk_6_54 (Or.inl rfl) sh_175 (Nat.le_of_ble_eq_true rfl)) (fun z650 s649  hz650 hs649 => ?_)
                    have hF651 := Fr_tr (lo := 14) (hi := 177) Fr_rf hs649 (by omega)
                    have hk652 : s649 (40) = σ (40) := (hs649 (40) (by omega))
                    refine ra_ifne rfl rfl (ra_in01 hz650) (fun h653 => ?_) (fun h653 => ?_)
                    · refine ra_load rfl rfl rfl rfl ?_
                      refine ra_ifeq rfl rfl (ra_in01 hz2) (fun h654 => ?_) (fun h654 => ?_)
                      · refine ra_load rfl rfl rfl rfl ?_
                        refine ra_ifeq rfl rfl (ra_in01 hz4) (fun h655 => ?_) (fun h655 => ?_)
                        · refine ra_load rfl rfl rfl rfl ?_
                          refine ra_iconst rfl ?_
                          refine ra_putB rfl lk_6_35 (Nat.zero_le _) sh_175 rfl rfl (Or.inr rfl) ?_
                          refine ra_new Fr_up (fun s656 hs656 => ?_)
                          have hF657 := Fr_tr (lo := 14) (hi := 177) hF651 hs656 (by omega)
                          have hk658 : s656 (40) = σ (40) := (hs656 (40) (by omega)).trans hk652
                          refine ra_load rfl rfl rfl rfl ?_
                          refine ra_load rfl rfl rfl rfl ?_
                          refine ra_getI rfl lk_6_58 (Nat.zero_le _) sh_175 rfl ?_
                          refine ra_gen (fun z659 hz659 => ?_)
                          refine ra_putI rfl lk_6_110 (Nat.zero_le _) (sh_D hE0) rfl rfl ?_
                          refine ra_new Fr_up (fun s660 hs660 => ?_)
                          have hF661 := Fr_tr (lo := 14) (hi := 177) hF657 hs660 (by omega)
                          have hk662 : s660 (40) = σ (40) := (hs660 (40) (by omega)).trans hk658
                          refine ra_iconst rfl ?_
                          exact ra_ireturn rfl (ra_okB (Or.inr rfl)) ⟨⟨_, (Or.inr rfl), rfl⟩, ⟨hF661, hk662⟩⟩
                        · refine ra_load rfl rfl rfl rfl ?_
                          refine ra_iconst rfl ?_
                          refine ra_putB rfl lk_6_32 (Nat.zero_le _) sh_175 rfl rfl (Or.inr rfl) ?_
                          refine ra_new Fr_up (fun s663 hs663 => ?_)
                          have hF664 := Fr_tr (lo := 14) (hi := 177) hF651 hs663 (by omega)
                          have hk665 : s663 (40) = σ (40) := (hs663 (40) (by omega)).trans hk652
                          refine ra_load rfl rfl rfl rfl ?_
                          refine ra_load rfl rfl rfl rfl ?_
                          refine ra_getI rfl lk_6_58 (Nat.zero_le _) sh_175 rfl ?_
                          refine ra_gen (fun z666 hz666 => ?_)
                          refine ra_putI rfl lk_6_108 (Nat.zero_le _) (sh_D hE0) rfl rfl ?_
                          refine ra_new Fr_up (fun s667 hs667 => ?_)
                          have hF668 := Fr_tr (lo := 14) (hi := 177) hF664 hs667 (by omega)
                          have hk669 : s667 (40) = σ (40) := (hs667 (40) (by omega)).trans hk665
                          refine ra_goto rfl rfl ?_
                          refine ra_iconst rfl ?_
                          exact ra_ireturn rfl (ra_okB (Or.inr rfl)) ⟨⟨_, (Or.inr rfl), rfl⟩, ⟨hF668, hk669⟩⟩
                      · refine ra_load rfl rfl rfl rfl ?_
                        refine ra_iconst rfl ?_
                        refine ra_putB rfl lk_6_28 (Nat.zero_le _) sh_175 rfl rfl (Or.inr rfl) ?_
                        refine ra_new Fr_up (fun s670 hs670 => ?_)
                        have hF671 := Fr_tr (lo := 14) (hi := 177) hF651 hs670 (by omega)
                        have hk672 : s670 (40) = σ (40) := (hs670 (40) (by omega)).trans hk652
                        refine ra_load rfl rfl rfl rfl ?_
                        refine ra_load rfl rfl rfl rfl ?_
                        refine ra_getI rfl lk_6_58 (Nat.zero_le _) sh_175 rfl ?_
                        refine ra_gen (fun z673 hz673 => ?_)
                        refine ra_putI rfl lk_6_106 (Nat.zero_le _) (sh_D hE0) rfl rfl ?_
                        refine ra_new Fr_up (fun s674 hs674 => ?_)
                        have hF675 := Fr_tr (lo := 14) (hi := 177) hF671 hs674 (by omega)
                        have hk676 : s674 (40) = σ (40) := (hs674 (40) (by omega)).trans hk672
                        refine ra_goto rfl rfl ?_
                        refine ra_iconst rfl ?_
                        exact ra_ireturn rfl (ra_okB (Or.inr rfl)) ⟨⟨_, (Or.inr rfl), rfl⟩, ⟨hF675, hk676⟩⟩
                    · refine ra_goto rfl rfl ?_
                      refine ra_iconst rfl ?_
                      exact ra_ireturn rfl (ra_okB (Or.inl rfl)) ⟨⟨_, (Or.inl rfl), rfl⟩, ⟨hF651, hk652⟩⟩
              · refine ra_load rfl rfl rfl rfl ?_
                refine ra_iconst rfl ?_
                refine ra_cB (sp_107 (by first | omega | (unfold ra_in at *; omega))) rfl (ct_107 rfl lk_6_50 (Or.inl rfl) sh_175 (Nat.le_of_ble_eq_true rfl)) (fun z678 s677  hz678 hs677 => ?_)
                have hF679 := Fr_tr (lo := 14) (hi := 177) Fr_rf hs677 (by omega)
                have hk680 : s677 (40) = σ (40) := (hs677 (40) (by omega))
                exact ra_ireturn rfl (ra_okB hz678) ⟨⟨_, hz678, rfl⟩, ⟨hF679, hk680⟩⟩
            · refine ra_load rfl rfl rfl rfl ?_
              refine ra_getBw rfl lk_6_32 (Nat.zero_le _) sh_175 rfl (fun z681 hz681 => ?_)
              refine ra_ifeq rfl rfl (ra_in01 hz681) (fun h682 => ?_) (fun h682 => ?_)
              · refine ra_load rfl rfl rfl rfl ?_
                refine ra_ifne rfl rfl (ra_in01 hz2) (fun h683 => ?_) (fun h683 => ?_)
                · refine ra_load rfl rfl rfl rfl ?_
                  refine ra_iconst rfl ?_
                  refine ra_bipush rfl (by decide) ?_
                  refine ra_cB (sp_106 (by first | omega | (unfold ra_in at *; omega)) (by first | omega | (unfold ra_in at *; omega))) rfl (ct_106 rfl lk_6_54 (Or.inl rfl) sh_175 (Nat.le_of_ble_eq_true rfl)) (fun z685 s684  hz685 hs684 => ?_)
                  have hF686 := Fr_tr (lo := 14) (hi := 177) Fr_rf hs684 (by omega)
                  have hk687 : s684 (40) = σ (40) := (hs684 (40) (by omega))
                  refine ra_ifne rfl rfl (ra_in01 hz685) (fun h688 => ?_) (fun h688 => ?_)
                  · refine ra_load rfl rfl rfl rfl ?_
                    refine ra_ifeq rfl rfl (ra_in01 hz2) (fun h689 => ?_) (fun h689 => ?_)
                    · refine ra_load rfl rfl rfl rfl ?_
                      refine ra_ifeq rfl rfl (ra_in01 hz4) (fun h690 => ?_) (fun h690 => ?_)
                      · refine ra_load rfl rfl rfl rfl ?_
                        refine ra_iconst rfl ?_
                        refine ra_putB rfl lk_6_35 (Nat.zero_le _) sh_175 rfl rfl (Or.inr rfl) ?_
                        refine ra_new Fr_up (fun s691 hs691 => ?_)
                        have hF692 := Fr_tr (lo := 14) (hi := 177) hF686 hs691 (by omega)
                        have hk693 : s691 (40) = σ (40) := (hs691 (40) (by omega)).trans hk687
                        refine ra_load rfl rfl rfl rfl ?_
                        refine ra_load rfl rfl rfl rfl ?_
                        refine ra_getI rfl lk_6_58 (Nat.zero_le _) sh_175 rfl ?_
                        refine ra_gen (fun z694 hz694 => ?_)
                        refine ra_putI rfl lk_6_110 (Nat.zero_le _) (sh_D hE0) rfl rfl ?_
                        refine ra_new Fr_up (fun s695 hs695 => ?_)
                        have hF696 := Fr_tr (lo := 14) (hi := 177) hF692 hs695 (by omega)
                        have hk697 : s695 (40) = σ (40) := (hs695 (40) (by omega)).trans hk693
                        refine ra_iconst rfl ?_
                        exact ra_ireturn rfl (ra_okB (Or.inr rfl)) ⟨⟨_, (Or.inr rfl), rfl⟩, ⟨hF696, hk697⟩⟩
                      · refine ra_load rfl rfl rfl rfl ?_
                        refine ra_iconst rfl ?_
                        refine ra_putB rfl lk_6_32 (Nat.zero_le _) sh_175 rfl rfl (Or.inr rfl) ?_
                        refine ra_new Fr_up (fun s698 hs698 => ?_)
                        have hF699 := Fr_tr (lo := 14) (hi := 177) hF686 hs698 (by omega)
                        have hk700 : s698 (40) = σ (40) := (hs698 (40) (by omega)).trans hk687
                        refine ra_load rfl rfl rfl rfl ?_
                        refine ra_load rfl rfl rfl rfl ?_
                        refine ra_getI rfl lk_6_58 (Nat.zero_le _) sh_175 rfl ?_
                        refine ra_gen (fun z701 hz701 => ?_)
                        refine ra_putI rfl lk_6_108 (Nat.zero_le _) (sh_D hE0) rfl rfl ?_
                        refine ra_new Fr_up (fun s702 hs702 => ?_)
                        have hF703 := Fr_tr (lo := 14) (hi := 177) hF699 hs702 (by omega)
                        have hk704 : s702 (40) = σ (40) := (hs702 (40) (by omega)).trans hk700
                        refine ra_goto rfl rfl ?_
                        refine ra_iconst rfl ?_
                        exact ra_ireturn rfl (ra_okB (Or.inr rfl)) ⟨⟨_, (Or.inr rfl), rfl⟩, ⟨hF703, hk704⟩⟩
                    · refine ra_load rfl rfl rfl rfl ?_
                      refine ra_iconst rfl ?_
                      refine ra_putB rfl lk_6_28 (Nat.zero_le _) sh_175 rfl rfl (Or.inr rfl) ?_
                      refine ra_new Fr_up (fun s705 hs705 => ?_)
                      have hF706 := Fr_tr (lo := 14) (hi := 177) hF686 hs705 (by omega)
                      have hk707 : s705 (40) = σ (40) := (hs705 (40) (by omega)).trans hk687
                      refine ra_load rfl rfl rfl rfl ?_
                      refine ra_load rfl rfl rfl rfl ?_
                      refine ra_getI rfl lk_6_58 (Nat.zero_le _) sh_175 rfl ?_
                      refine ra_gen (fun z708 hz708 => ?_)
                      refine ra_putI rfl lk_6_106 (Nat.zero_le _) (sh_D hE0) rfl rfl ?_
                      refine ra_new Fr_up (fun s709 hs709 => ?_)
                      have hF710 := Fr_tr (lo := 14) (hi := 177) hF706 hs709 (by omega)
                      have hk711 : s709 (40) = σ (40) := (hs709 (40) (by omega)).trans hk707
                      refine ra_goto rfl rfl ?_
                      refine ra_iconst rfl ?_
                      exact ra_ireturn rfl (ra_okB (Or.inr rfl)) ⟨⟨_, (Or.inr rfl), rfl⟩, ⟨hF710, hk711⟩⟩
                  · refine ra_goto rfl rfl ?_
                    refine ra_iconst rfl ?_
                    exact ra_ireturn rfl (ra_okB (Or.inl rfl)) ⟨⟨_, (Or.inl rfl), rfl⟩, ⟨hF686, hk687⟩⟩
                · refine ra_load rfl rfl rfl rfl ?_
                  refine ra_ifeq rfl rfl (ra_in01 hz4) (fun h712 => ?_) (fun h712 => ?_)
                  · refine ra_load rfl rfl rfl rfl ?_
                    refine ra_iconst rfl ?_
                    refine ra_bipush rfl (by decide) ?_
                    refine ra_cB (sp_106 (by first | omega | (unfold ra_in at *; omega)) (by first | omega | (unfold ra_in at *; omega))) rfl (ct_106 rfl lk_6_54 (Or.inl rfl) sh_175 (Nat.le_of_ble_eq_true rfl)) (fun z714 s713  hz714 hs713 => ?_)
                    have hF715 := Fr_tr (lo := 14) (hi := 177) Fr_rf hs713 (by omega)
                    have hk716 : s713 (40) = σ (40) := (hs713 (40) (by omega))
                    refine ra_ifne rfl rfl (ra_in01 hz714) (fun h717 => ?_) (fun h717 => ?_)
                    · refine ra_load rfl rfl rfl rfl ?_
                      refine ra_ifeq rfl rfl (ra_in01 hz2) (fun h718 => ?_) (fun h718 => ?_)
                      · refine ra_load rfl rfl rfl rfl ?_
                        refine ra_ifeq rfl rfl (ra_in01 hz4) (fun h719 => ?_) (fun h719 => ?_)
                        · refine ra_load rfl rfl rfl rfl ?_
                          refine ra_iconst rfl ?_
                          refine ra_putB rfl lk_6_35 (Nat.zero_le _) sh_175 rfl rfl (Or.inr rfl) ?_
                          refine ra_new Fr_up (fun s720 hs720 => ?_)
                          have hF721 := Fr_tr (lo := 14) (hi := 177) hF715 hs720 (by omega)
                          have hk722 : s720 (40) = σ (40) := (hs720 (40) (by omega)).trans hk716
                          refine ra_load rfl rfl rfl rfl ?_
                          refine ra_load rfl rfl rfl rfl ?_
                          refine ra_getI rfl lk_6_58 (Nat.zero_le _) sh_175 rfl ?_
                          refine ra_gen (fun z723 hz723 => ?_)
                          refine ra_putI rfl lk_6_110 (Nat.zero_le _) (sh_D hE0) rfl rfl ?_
                          refine ra_new Fr_up (fun s724 hs724 => ?_)
                          have hF725 := Fr_tr (lo := 14) (hi := 177) hF721 hs724 (by omega)
                          have hk726 : s724 (40) = σ (40) := (hs724 (40) (by omega)).trans hk722
                          refine ra_iconst rfl ?_
                          exact ra_ireturn rfl (ra_okB (Or.inr rfl)) ⟨⟨_, (Or.inr rfl), rfl⟩, ⟨hF725, hk726⟩⟩
                        · refine ra_load rfl rfl rfl rfl ?_
                          refine ra_iconst rfl ?_
                          refine ra_putB rfl lk_6_32 (Nat.zero_le _) sh_175 rfl rfl (Or.inr rfl) ?_
                          refine ra_new Fr_up (fun s727 hs727 => ?_)
                          have hF728 := Fr_tr (lo := 14) (hi := 177) hF715 hs727 (by omega)
                          have hk729 : s727 (40) = σ (40) := (hs727 (40) (by omega)).trans hk716
                          refine ra_load rfl rfl rfl rfl ?_
                          refine ra_load rfl rfl rfl rfl ?_
                          refine ra_getI rfl lk_6_58 (Nat.zero_le _) sh_175 rfl ?_
                          refine ra_gen (fun z730 hz730 => ?_)
                          refine ra_putI rfl lk_6_108 (Nat.zero_le _) (sh_D hE0) rfl rfl ?_
                          refine ra_new Fr_up (fun s731 hs731 => ?_)
                          have hF732 := Fr_tr (lo := 14) (hi := 177) hF728 hs731 (by omega)
                          have hk733 : s731 (40) = σ (40) := (hs731 (40) (by omega)).trans hk729
                          refine ra_goto rfl rfl ?_
                          refine ra_iconst rfl ?_
                          exact ra_ireturn rfl (ra_okB (Or.inr rfl)) ⟨⟨_, (Or.inr rfl), rfl⟩, ⟨hF732, hk733⟩⟩
                      · refine ra_load rfl rfl rfl rfl ?_
                        refine ra_iconst rfl ?_
                        refine ra_putB rfl lk_6_28 (Nat.zero_le _) sh_175 rfl rfl (Or.inr rfl) ?_
                        refine ra_new Fr_up (fun s734 hs734 => ?_)
                        have hF735 := Fr_tr (lo := 14) (hi := 177) hF715 hs734 (by omega)
                        have hk736 : s734 (40) = σ (40) := (hs734 (40) (by omega)).trans hk716
                        refine ra_load rfl rfl rfl rfl ?_
                        refine ra_load rfl rfl rfl rfl ?_
                        refine ra_getI rfl lk_6_58 (Nat.zero_le _) sh_175 rfl ?_
                        refine ra_gen (fun z737 hz737 => ?_)
                        refine ra_putI rfl lk_6_106 (Nat.zero_le _) (sh_D hE0) rfl rfl ?_
                        refine ra_new Fr_up (fun s738 hs738 => ?_)
                        have hF739 := Fr_tr (lo := 14) (hi := 177) hF735 hs738 (by omega)
                        have hk740 : s738 (40) = σ (40) := (hs738 (40) (by omega)).trans hk736
                        refine ra_goto rfl rfl ?_
                        refine ra_iconst rfl ?_
                        exact ra_ireturn rfl (ra_okB (Or.inr rfl)) ⟨⟨_, (Or.inr rfl), rfl⟩, ⟨hF739, hk740⟩⟩
                    · refine ra_iconst rfl ?_
                      exact ra_ireturn rfl (ra_okB (Or.inl rfl)) ⟨⟨_, (Or.inl rfl), rfl⟩, ⟨hF715, hk716⟩⟩
                  · refine ra_load rfl rfl rfl rfl ?_
                    refine ra_iconst rfl ?_
                    refine ra_bipush rfl (by decide) ?_
                    refine ra_cB (sp_106 (by first | omega | (unfold ra_in at *; omega)) (by first | omega | (unfold ra_in at *; omega))) rfl (ct_106 rfl lk_6_54 (Or.inl rfl) sh_175 (Nat.le_of_ble_eq_true rfl)) (fun z742 s741  hz742 hs741 => ?_)
                    have hF743 := Fr_tr (lo := 14) (hi := 177) Fr_rf hs741 (by omega)
                    have hk744 : s741 (40) = σ (40) := (hs741 (40) (by omega))
                    refine ra_ifne rfl rfl (ra_in01 hz742) (fun h745 => ?_) (fun h745 => ?_)
                    · refine ra_load rfl rfl rfl rfl ?_
                      refine ra_ifeq rfl rfl (ra_in01 hz2) (fun h746 => ?_) (fun h746 => ?_)
                      · refine ra_load rfl rfl rfl rfl ?_
                        refine ra_ifeq rfl rfl (ra_in01 hz4) (fun h747 => ?_) (fun h747 => ?_)
                        · refine ra_load rfl rfl rfl rfl ?_
                          refine ra_iconst rfl ?_
                          refine ra_putB rfl lk_6_35 (Nat.zero_le _) sh_175 rfl rfl (Or.inr rfl) ?_
                          refine ra_new Fr_up (fun s748 hs748 => ?_)
                          have hF749 := Fr_tr (lo := 14) (hi := 177) hF743 hs748 (by omega)
                          have hk750 : s748 (40) = σ (40) := (hs748 (40) (by omega)).trans hk744
                          refine ra_load rfl rfl rfl rfl ?_
                          refine ra_load rfl rfl rfl rfl ?_
                          refine ra_getI rfl lk_6_58 (Nat.zero_le _) sh_175 rfl ?_
                          refine ra_gen (fun z751 hz751 => ?_)
                          refine ra_putI rfl lk_6_110 (Nat.zero_le _) (sh_D hE0) rfl rfl ?_
                          refine ra_new Fr_up (fun s752 hs752 => ?_)
                          have hF753 := Fr_tr (lo := 14) (hi := 177) hF749 hs752 (by omega)
                          have hk754 : s752 (40) = σ (40) := (hs752 (40) (by omega)).trans hk750
                          refine ra_iconst rfl ?_
                          exact ra_ireturn rfl (ra_okB (Or.inr rfl)) ⟨⟨_, (Or.inr rfl), rfl⟩, ⟨hF753, hk754⟩⟩
                        · refine ra_load rfl rfl rfl rfl ?_
                          refine ra_iconst rfl ?_
                          refine ra_putB rfl lk_6_32 (Nat.zero_le _) sh_175 rfl rfl (Or.inr rfl) ?_
                          refine ra_new Fr_up (fun s755 hs755 => ?_)
                          have hF756 := Fr_tr (lo := 14) (hi := 177) hF743 hs755 (by omega)
                          have hk757 : s755 (40) = σ (40) := (hs755 (40) (by omega)).trans hk744
                          refine ra_load rfl rfl rfl rfl ?_
                          refine ra_load rfl rfl rfl rfl ?_
                          refine ra_getI rfl lk_6_58 (Nat.zero_le _) sh_175 rfl ?_
                          refine ra_gen (fun z758 hz758 => ?_)
                          refine ra_putI rfl lk_6_108 (Nat.zero_le _) (sh_D hE0) rfl rfl ?_
                          refine ra_new Fr_up (fun s759 hs759 => ?_)
                          have hF760 := Fr_tr (lo := 14) (hi := 177) hF756 hs759 (by omega)
                          have hk761 : s759 (40) = σ (40) := (hs759 (40) (by omega)).trans hk757
                          refine ra_goto rfl rfl ?_
                          refine ra_iconst rfl ?_
                          exact ra_ireturn rfl (ra_okB (Or.inr rfl)) ⟨⟨_, (Or.inr rfl), rfl⟩, ⟨hF760, hk761⟩⟩
                      · refine ra_load rfl rfl rfl rfl ?_
                        refine ra_iconst rfl ?_
                        refine ra_putB rfl lk_6_28 (Nat.zero_le _) sh_175 rfl rfl (Or.inr rfl) ?_
                        refine ra_new Fr_up (fun s762 hs762 => ?_)
                        have hF763 := Fr_tr (lo := 14) (hi := 177) hF743 hs762 (by omega)
                        have hk764 : s762 (40) = σ (40) := (hs762 (40) (by omega)).trans hk744
                        refine ra_load rfl rfl rfl rfl ?_
                        refine ra_load rfl rfl rfl rfl ?_
                        refine ra_getI rfl lk_6_58 (Nat.zero_le _) sh_175 rfl ?_
                        refine ra_gen (fun z765 hz765 => ?_)
                        refine ra_putI rfl lk_6_106 (Nat.zero_le _) (sh_D hE0) rfl rfl ?_
                        refine ra_new Fr_up (fun s766 hs766 => ?_)
                        have hF767 := Fr_tr (lo := 14) (hi := 177) hF763 hs766 (by omega)
                        have hk768 : s766 (40) = σ (40) := (hs766 (40) (by omega)).trans hk764
                        refine ra_goto rfl rfl ?_
                        refine ra_iconst rfl ?_
                        exact ra_ireturn rfl (ra_okB (Or.inr rfl)) ⟨⟨_, (Or.inr rfl), rfl⟩, ⟨hF767, hk768⟩⟩
                    · refine ra_goto rfl rfl ?_
                      refine ra_iconst rfl ?_
                      exact ra_ireturn rfl (ra_okB (Or.inl rfl)) ⟨⟨_, (Or.inl rfl), rfl⟩, ⟨hF743, hk744⟩⟩
              · refine ra_goto rfl rfl ?_
                refine ra_load rfl rfl rfl rfl ?_
                refine ra_iconst rfl ?_
                refine ra_cB (sp_107 (by first | omega | (unfold ra_in at *; omega))) rfl (ct_107 rfl lk_6_50 (Or.inl rfl) sh_175 (Nat.le_of_ble_eq_true rfl)) (fun z770 s769  hz770 hs769 => ?_)
                have hF771 := Fr_tr (lo := 14) (hi := 177) Fr_rf hs769 (by omega)
                have hk772 : s769 (40) = σ (40) := (hs769 (40) (by omega))
                exact ra_ireturn rfl (ra_okB hz770) ⟨⟨_, hz770, rfl⟩, ⟨hF771, hk772⟩⟩
          · refine ra_load rfl rfl rfl rfl ?_
            refine ra_getBw rfl lk_6_28 (Nat.zero_le _) sh_175 rfl (fun z773 hz773 => ?_)
            refine ra_ifeq rfl rfl (ra_in01 hz773) (fun h774 => ?_) (fun h774 => ?_)
            · refine ra_load rfl rfl rfl rfl ?_
              refine ra_ifne rfl rfl (ra_in01 hz2) (fun h775 => ?_) (fun h775 => ?_)
              · refine ra_load rfl rfl rfl rfl ?_
                refine ra_iconst rfl ?_
                refine ra_bipush rfl (by decide) ?_
                refine ra_cB (sp_106 (by first | omega | (unfold ra_in at *; omega)) (by first | omega | (unfold ra_in at *; omega))) rfl (ct_106 rfl lk_6_54 (Or.inl rfl) sh_175 (Nat.le_of_ble_eq_true rfl)) (fun z777 s776  hz777 hs776 => ?_)
                have hF778 := Fr_tr (lo := 14) (hi := 177) Fr_rf hs776 (by omega)
                have hk779 : s776 (40) = σ (40) := (hs776 (40) (by omega))
                refine ra_ifne rfl rfl (ra_in01 hz777) (fun h780 => ?_) (fun h780 => ?_)
                · refine ra_load rfl rfl rfl rfl ?_
                  refine ra_ifeq rfl rfl (ra_in01 hz2) (fun h781 => ?_) (fun h781 => ?_)
                  · refine ra_load rfl rfl rfl rfl ?_
                    refine ra_ifeq rfl rfl (ra_in01 hz4) (fun h782 => ?_) (fun h782 => ?_)
                    · refine ra_load rfl rfl rfl rfl ?_
                      refine ra_iconst rfl ?_
                      refine ra_putB rfl lk_6_35 (Nat.zero_le _) sh_175 rfl rfl (Or.inr rfl) ?_
                      refine ra_new Fr_up (fun s783 hs783 => ?_)
                      have hF784 := Fr_tr (lo := 14) (hi := 177) hF778 hs783 (by omega)
                      have hk785 : s783 (40) = σ (40) := (hs783 (40) (by omega)).trans hk779
                      refine ra_load rfl rfl rfl rfl ?_
                      refine ra_load rfl rfl rfl rfl ?_
                      refine ra_getI rfl lk_6_58 (Nat.zero_le _) sh_175 rfl ?_
                      refine ra_gen (fun z786 hz786 => ?_)
                      refine ra_putI rfl lk_6_110 (Nat.zero_le _) (sh_D hE0) rfl rfl ?_
                      refine ra_new Fr_up (fun s787 hs787 => ?_)
                      have hF788 := Fr_tr (lo := 14) (hi := 177) hF784 hs787 (by omega)
                      have hk789 : s787 (40) = σ (40) := (hs787 (40) (by omega)).trans hk785
                      refine ra_iconst rfl ?_
                      exact ra_ireturn rfl (ra_okB (Or.inr rfl)) ⟨⟨_, (Or.inr rfl), rfl⟩, ⟨hF788, hk789⟩⟩
                    · refine ra_load rfl rfl rfl rfl ?_
                      refine ra_iconst rfl ?_
                      refine ra_putB rfl lk_6_32 (Nat.zero_le _) sh_175 rfl rfl (Or.inr rfl) ?_
                      refine ra_new Fr_up (fun s790 hs790 => ?_)
                      have hF791 := Fr_tr (lo := 14) (hi := 177) hF778 hs790 (by omega)
                      have hk792 : s790 (40) = σ (40) := (hs790 (40) (by omega)).trans hk779
                      refine ra_load rfl rfl rfl rfl ?_
                      refine ra_load rfl rfl rfl rfl ?_
                      refine ra_getI rfl lk_6_58 (Nat.zero_le _) sh_175 rfl ?_
                      refine ra_gen (fun z793 hz793 => ?_)
                      refine ra_putI rfl lk_6_108 (Nat.zero_le _) (sh_D hE0) rfl rfl ?_
                      refine ra_new Fr_up (fun s794 hs794 => ?_)
                      have hF795 := Fr_tr (lo := 14) (hi := 177) hF791 hs794 (by omega)
                      have hk796 : s794 (40) = σ (40) := (hs794 (40) (by omega)).trans hk792
                      refine ra_goto rfl rfl ?_
                      refine ra_iconst rfl ?_
                      exact ra_ireturn rfl (ra_okB (Or.inr rfl)) ⟨⟨_, (Or.inr rfl), rfl⟩, ⟨hF795, hk796⟩⟩
                  · refine ra_load rfl rfl rfl rfl ?_
                    refine ra_iconst rfl ?_
                    refine ra_putB rfl lk_6_28 (Nat.zero_le _) sh_175 rfl rfl (Or.inr rfl) ?_
                    refine ra_new Fr_up (fun s797 hs797 => ?_)
                    have hF798 := Fr_tr (lo := 14) (hi := 177) hF778 hs797 (by omega)
                    have hk799 : s797 (40) = σ (40) := (hs797 (40) (by omega)).trans hk779
                    refine ra_load rfl rfl rfl rfl ?_
                    refine ra_load rfl rfl rfl rfl ?_
                    refine ra_getI rfl lk_6_58 (Nat.zero_le _) sh_175 rfl ?_
                    refine ra_gen (fun z800 hz800 => ?_)
                    refine ra_putI rfl lk_6_106 (Nat.zero_le _) (sh_D hE0) rfl rfl ?_
                    refine ra_new Fr_up (fun s801 hs801 => ?_)
                    have hF802 := Fr_tr (lo := 14) (hi := 177) hF798 hs801 (by omega)
                    have hk803 : s801 (40) = σ (40) := (hs801 (40) (by omega)).trans hk799
                    refine ra_goto rfl rfl ?_
                    refine ra_iconst rfl ?_
                    exact ra_ireturn rfl (ra_okB (Or.inr rfl)) ⟨⟨_, (Or.inr rfl), rfl⟩, ⟨hF802, hk803⟩⟩
                · refine ra_goto rfl rfl ?_
                  refine ra_iconst rfl ?_
                  exact ra_ireturn rfl (ra_okB (Or.inl rfl)) ⟨⟨_, (Or.inl rfl), rfl⟩, ⟨hF778, hk779⟩⟩
              · refine ra_load rfl rfl rfl rfl ?_
                refine ra_ifeq rfl rfl (ra_in01 hz4) (fun h804 => ?_) (fun h804 => ?_)
                · refine ra_load rfl rfl rfl rfl ?_
                  refine ra_iconst rfl ?_
                  refine ra_bipush rfl (by decide) ?_
                  refine ra_cB (sp_106 (by first | omega | (unfold ra_in at *; omega)) (by first | omega | (unfold ra_in at *; omega))) rfl (ct_106 rfl lk_6_54 (Or.inl rfl) sh_175 (Nat.le_of_ble_eq_true rfl)) (fun z806 s805  hz806 hs805 => ?_)
                  have hF807 := Fr_tr (lo := 14) (hi := 177) Fr_rf hs805 (by omega)
                  have hk808 : s805 (40) = σ (40) := (hs805 (40) (by omega))
                  refine ra_ifne rfl rfl (ra_in01 hz806) (fun h809 => ?_) (fun h809 => ?_)
                  · refine ra_load rfl rfl rfl rfl ?_
                    refine ra_ifeq rfl rfl (ra_in01 hz2) (fun h810 => ?_) (fun h810 => ?_)
                    · refine ra_load rfl rfl rfl rfl ?_
                      refine ra_ifeq rfl rfl (ra_in01 hz4) (fun h811 => ?_) (fun h811 => ?_)
                      · refine ra_load rfl rfl rfl rfl ?_
                        refine ra_iconst rfl ?_
                        refine ra_putB rfl lk_6_35 (Nat.zero_le _) sh_175 rfl rfl (Or.inr rfl) ?_
                        refine ra_new Fr_up (fun s812 hs812 => ?_)
                        have hF813 := Fr_tr (lo := 14) (hi := 177) hF807 hs812 (by omega)
                        have hk814 : s812 (40) = σ (40) := (hs812 (40) (by omega)).trans hk808
                        refine ra_load rfl rfl rfl rfl ?_
                        refine ra_load rfl rfl rfl rfl ?_
                        refine ra_getI rfl lk_6_58 (Nat.zero_le _) sh_175 rfl ?_
                        refine ra_gen (fun z815 hz815 => ?_)
                        refine ra_putI rfl lk_6_110 (Nat.zero_le _) (sh_D hE0) rfl rfl ?_
                        refine ra_new Fr_up (fun s816 hs816 => ?_)
                        have hF817 := Fr_tr (lo := 14) (hi := 177) hF813 hs816 (by omega)
                        have hk818 : s816 (40) = σ (40) := (hs816 (40) (by omega)).trans hk814
                        refine ra_iconst rfl ?_
                        exact ra_ireturn rfl (ra_okB (Or.inr rfl)) ⟨⟨_, (Or.inr rfl), rfl⟩, ⟨hF817, hk818⟩⟩
                      · refine ra_load rfl rfl rfl rfl ?_
                        refine ra_iconst rfl ?_
                        refine ra_putB rfl lk_6_32 (Nat.zero_le _) sh_175 rfl rfl (Or.inr rfl) ?_
                        refine ra_new Fr_up (fun s819 hs819 => ?_)
                        have hF820 := Fr_tr (lo := 14) (hi := 177) hF807 hs819 (by omega)
                        have hk821 : s819 (40) = σ (40) := (hs819 (40) (by omega)).trans hk808
                        refine ra_load rfl rfl rfl rfl ?_
                        refine ra_load rfl rfl rfl rfl ?_
                        refine ra_getI rfl lk_6_58 (Nat.zero_le _) sh_175 rfl ?_
                        refine ra_gen (fun z822 hz822 => ?_)
                        refine ra_putI rfl lk_6_108 (Nat.zero_le _) (sh_D hE0) rfl rfl ?_
                        refine ra_new Fr_up (fun s823 hs823 => ?_)
                        have hF824 := Fr_tr (lo := 14) (hi := 177) hF820 hs823 (by omega)
                        have hk825 : s823 (40) = σ (40) := (hs823 (40) (by omega)).trans hk821
                        refine ra_goto rfl rfl ?_
                        refine ra_iconst rfl ?_
                        exact ra_ireturn rfl (ra_okB (Or.inr rfl)) ⟨⟨_, (Or.inr rfl), rfl⟩, ⟨hF824, hk825⟩⟩
                    · refine ra_load rfl rfl rfl rfl ?_
                      refine ra_iconst rfl ?_
                      refine ra_putB rfl lk_6_28 (Nat.zero_le _) sh_175 rfl rfl (Or.inr rfl) ?_
                      refine ra_new Fr_up (fun s826 hs826 => ?_)
                      have hF827 := Fr_tr (lo := 14) (hi := 177) hF807 hs826 (by omega)
                      have hk828 : s826 (40) = σ (40) := (hs826 (40) (by omega)).trans hk808
                      refine ra_load rfl rfl rfl rfl ?_
                      refine ra_load rfl rfl rfl rfl ?_
                      refine ra_getI rfl lk_6_58 (Nat.zero_le _) sh_175 rfl ?_
                      refine ra_gen (fun z829 hz829 => ?_)
                      refine ra_putI rfl lk_6_106 (Nat.zero_le _) (sh_D hE0) rfl rfl ?_
                      refine ra_new Fr_up (fun s830 hs830 => ?_)
                      have hF831 := Fr_tr (lo := 14) (hi := 177) hF827 hs830 (by omega)
                      have hk832 : s830 (40) = σ (40) := (hs830 (40) (by omega)).trans hk828
                      refine ra_goto rfl rfl ?_
                      refine ra_iconst rfl ?_
                      exact ra_ireturn rfl (ra_okB (Or.inr rfl)) ⟨⟨_, (Or.inr rfl), rfl⟩, ⟨hF831, hk832⟩⟩
                  · refine ra_iconst rfl ?_
                    exact ra_ireturn rfl (ra_okB (Or.inl rfl)) ⟨⟨_, (Or.inl rfl), rfl⟩, ⟨hF807, hk808⟩⟩
                · refine ra_load rfl rfl rfl rfl ?_
                  refine ra_iconst rfl ?_
                  refine ra_bipush rfl (by decide) ?_
                  refine ra_cB (sp_106 (by first | omega | (unfold ra_in at *; omega)) (by first | omega | (unfold ra_in at *; omega))) rfl (ct_106 rfl lk_6_54 (Or.inl rfl) sh_175 (Nat.le_of_ble_eq_true rfl)) (fun z834 s833  hz834 hs833 => ?_)
                  have hF835 := Fr_tr (lo := 14) (hi := 177) Fr_rf hs833 (by omega)
                  have hk836 : s833 (40) = σ (40) := (hs833 (40) (by omega))
                  refine ra_ifne rfl rfl (ra_in01 hz834) (fun h837 => ?_) (fun h837 => ?_)
                  · refine ra_load rfl rfl rfl rfl ?_
                    refine ra_ifeq rfl rfl (ra_in01 hz2) (fun h838 => ?_) (fun h838 => ?_)
                    · refine ra_load rfl rfl rfl rfl ?_
                      refine ra_ifeq rfl rfl (ra_in01 hz4) (fun h839 => ?_) (fun h839 => ?_)
                      · refine ra_load rfl rfl rfl rfl ?_
                        refine ra_iconst rfl ?_
                        refine ra_putB rfl lk_6_35 (Nat.zero_le _) sh_175 rfl rfl (Or.inr rfl) ?_
                        refine ra_new Fr_up (fun s840 hs840 => ?_)
                        have hF841 := Fr_tr (lo := 14) (hi := 177) hF835 hs840 (by omega)
                        have hk842 : s840 (40) = σ (40) := (hs840 (40) (by omega)).trans hk836
                        refine ra_load rfl rfl rfl rfl ?_
                        refine ra_load rfl rfl rfl rfl ?_
                        refine ra_getI rfl lk_6_58 (Nat.zero_le _) sh_175 rfl ?_
                        refine ra_gen (fun z843 hz843 => ?_)
                        refine ra_putI rfl lk_6_110 (Nat.zero_le _) (sh_D hE0) rfl rfl ?_
                        refine ra_new Fr_up (fun s844 hs844 => ?_)
                        have hF845 := Fr_tr (lo := 14) (hi := 177) hF841 hs844 (by omega)
                        have hk846 : s844 (40) = σ (40) := (hs844 (40) (by omega)).trans hk842
                        refine ra_iconst rfl ?_
                        exact ra_ireturn rfl (ra_okB (Or.inr rfl)) ⟨⟨_, (Or.inr rfl), rfl⟩, ⟨hF845, hk846⟩⟩
                      · refine ra_load rfl rfl rfl rfl ?_
                        refine ra_iconst rfl ?_
                        refine ra_putB rfl lk_6_32 (Nat.zero_le _) sh_175 rfl rfl (Or.inr rfl) ?_
                        refine ra_new Fr_up (fun s847 hs847 => ?_)
                        have hF848 := Fr_tr (lo := 14) (hi := 177) hF835 hs847 (by omega)
                        have hk849 : s847 (40) = σ (40) := (hs847 (40) (by omega)).trans hk836
                        refine ra_load rfl rfl rfl rfl ?_
                        refine ra_load rfl rfl rfl rfl ?_
                        refine ra_getI rfl lk_6_58 (Nat.zero_le _) sh_175 rfl ?_
                        refine ra_gen (fun z850 hz850 => ?_)
                        refine ra_putI rfl lk_6_108 (Nat.zero_le _) (sh_D hE0) rfl rfl ?_
                        refine ra_new Fr_up (fun s851 hs851 => ?_)
                        have hF852 := Fr_tr (lo := 14) (hi := 177) hF848 hs851 (by omega)
                        have hk853 : s851 (40) = σ (40) := (hs851 (40) (by omega)).trans hk849
                        refine ra_goto rfl rfl ?_
                        refine ra_iconst rfl ?_
                        exact ra_ireturn rfl (ra_okB (Or.inr rfl)) ⟨⟨_, (Or.inr rfl), rfl⟩, ⟨hF852, hk853⟩⟩
                    · refine ra_load rfl rfl rfl rfl ?_
                      refine ra_iconst rfl ?_
                      refine ra_putB rfl lk_6_28 (Nat.zero_le _) sh_175 rfl rfl (Or.inr rfl) ?_
                      refine ra_new Fr_up (fun s854 hs854 => ?_)
                      have hF855 := Fr_tr (lo := 14) (hi := 177) hF835 hs854 (by omega)
                      have hk856 : s854 (40) = σ (40) := (hs854 (40) (by omega)).trans hk836
                      refine ra_load rfl rfl rfl rfl ?_
                      refine ra_load rfl rfl rfl rfl ?_
                      refine ra_getI rfl lk_6_58 (Nat.zero_le _) sh_175 rfl ?_
                      refine ra_gen (fun z857 hz857 => ?_)
                      refine ra_putI rfl lk_6_106 (Nat.zero_le _) (sh_D hE0) rfl rfl ?_
                      refine ra_new Fr_up (fun s858 hs858 => ?_)
                      have hF859 := Fr_tr (lo := 14) (hi := 177) hF855 hs858 (by omega)
                      have hk860 : s858 (40) = σ (40) := (hs858 (40) (by omega)).trans hk856
                      refine ra_goto rfl rfl ?_
                      refine ra_iconst rfl ?_
                      exact ra_ireturn rfl (ra_okB (Or.inr rfl)) ⟨⟨_, (Or.inr rfl), rfl⟩, ⟨hF859, hk860⟩⟩
                  · refine ra_goto rfl rfl ?_
                    refine ra_iconst rfl ?_
                    exact ra_ireturn rfl (ra_okB (Or.inl rfl)) ⟨⟨_, (Or.inl rfl), rfl⟩, ⟨hF835, hk836⟩⟩
            · refine ra_goto rfl rfl ?_
              refine ra_load rfl rfl rfl rfl ?_
              refine ra_iconst rfl ?_
              refine ra_cB (sp_107 (by first | omega | (unfold ra_in at *; omega))) rfl (ct_107 rfl lk_6_50 (Or.inl rfl) sh_175 (Nat.le_of_ble_eq_true rfl)) (fun z862 s861  hz862 hs861 => ?_)
              have hF863 := Fr_tr (lo := 14) (hi := 177) Fr_rf hs861 (by omega)
              have hk864 : s861 (40) = σ (40) := (hs861 (40) (by omega))
              exact ra_ireturn rfl (ra_okB hz862) ⟨⟨_, hz862, rfl⟩, ⟨hF863, hk864⟩⟩
        · refine ra_load rfl rfl rfl rfl ?_
          refine ra_iconst rfl ?_
          refine ra_cB (sp_107 (by first | omega | (unfold ra_in at *; omega))) rfl (ct_107 rfl lk_6_50 (Or.inl rfl) sh_175 (Nat.le_of_ble_eq_true rfl)) (fun z866 s865  hz866 hs865 => ?_)
          have hF867 := Fr_tr (lo := 14) (hi := 177) Fr_rf hs865 (by omega)
          have hk868 : s865 (40) = σ (40) := (hs865 (40) (by omega))
          exact ra_ireturn rfl (ra_okB hz866) ⟨⟨_, hz866, rfl⟩, ⟨hF867, hk868⟩⟩
theorem sp_104 {n : Nat} {f : Nat → Int32} {d : Nat} {E0 : Nat} {σ : ra_V} (hE0 : isD E0) (hq : E0 = 14) : ra_C (g_Gs n f) g_sh 0 (d + 4) 104 [.index (175), .index (E0)] σ (fun r s => rB r ∧ Fr (14) (177) σ s ∧ s (40) = σ (40)) := by
  refine ra_enter (nn := 1) mt_104 rfl (Nat.le_of_ble_eq_true rfl) rfl (fun h => absurd h (by decide +kernel)) ?_
  refine ra_load rfl rfl rfl rfl ?_
  refine ra_iconst rfl ?_
  refine ra_load rfl rfl rfl rfl ?_
  refine ra_cIp (sp_4 hE0) rfl (ct_4 rfl lk_6_102 (Or.inl rfl) (sh_D hE0) (Nat.le_of_ble_eq_true rfl)) (fun z2 hz2 => ?_)
  refine ra_iconst rfl ?_
  refine ra_isub rfl ?_
  refine ra_gen (fun z3 hz3 => ?_)
  refine ra_cB (sp_106 (by first | omega | (unfold ra_in at *; omega)) hz3) rfl (ct_106 rfl lk_6_54 (Or.inl rfl) sh_175 (Nat.le_of_ble_eq_true rfl)) (fun z5 s4  hz5 hs4 => ?_)
  have hF6 := Fr_tr (lo := 14) (hi := 177) Fr_rf hs4 (by omega)
  have hk7 : s4 (40) = σ (40) := (hs4 (40) (by omega))
  refine ra_ifne rfl rfl (ra_in01 hz5) (fun h8 => ?_) (fun h8 => ?_)
  · refine ra_load rfl rfl rfl rfl ?_
    refine ra_load rfl rfl rfl rfl ?_
    refine ra_getI rfl lk_6_58 (Nat.zero_le _) sh_175 rfl ?_
    refine ra_gen (fun z9 hz9 => ?_)
    refine ra_cPp (sp_3 hE0 hz9) rfl (ct_3 rfl lk_6_128 (Or.inl rfl) (sh_D hE0) (Nat.le_of_ble_eq_true rfl)) ?_ (fun j11 hj11 => ?_)
    · refine ra_store (L' := [_, _, _]) rfl rfl rfl (Nat.le_of_ble_eq_true rfl) rfl ?_
      refine ra_load rfl rfl rfl rfl ?_
      refine ra_nnullF rfl rfl ?_
      refine ra_load rfl rfl rfl rfl ?_
      refine ra_iconst rfl ?_
      refine ra_cB (sp_107 (by first | omega | (unfold ra_in at *; omega))) rfl (ct_107 rfl lk_6_50 (Or.inl rfl) sh_175 (Nat.le_of_ble_eq_true rfl)) (fun z13 s12  hz13 hs12 => ?_)
      have hF14 := Fr_tr (lo := 14) (hi := 177) hF6 hs12 (by omega)
      have hk15 : s12 (40) = σ (40) := (hs12 (40) (by omega)).trans hk7
      exact ra_ireturn rfl (ra_okB hz13) ⟨⟨_, hz13, rfl⟩, ⟨hF14, hk15⟩⟩
    · refine ra_store (L' := [_, _, _]) rfl rfl rfl (Nat.le_of_ble_eq_true rfl) rfl ?_
      refine ra_load rfl rfl rfl rfl ?_
      refine ra_nnullT rfl rfl ?_
      refine ra_load rfl rfl rfl rfl ?_
      refine ra_getBw rfl lk_6_132 (Nat.zero_le _) (sh_P hE0 hj11) rfl (fun z16 hz16 => ?_)
      refine ra_ifeq rfl rfl (ra_in01 hz16) (fun h17 => ?_) (fun h17 => ?_)
      · refine ra_load rfl rfl rfl rfl ?_
        refine ra_iconst rfl ?_
        refine ra_putB rfl lk_6_132 (Nat.zero_le _) (sh_P hE0 hj11) rfl rfl (Or.inr rfl) ?_
        refine ra_new Fr_up (fun s18 hs18 => ?_)
        have hF19 := Fr_tr (lo := 14) (hi := 177) hF6 hs18 (by omega)
        have hk20 : s18 (40) = σ (40) := (hs18 (40) (by omega)).trans hk7
        refine ra_iconst rfl ?_
        exact ra_ireturn rfl (ra_okB (Or.inr rfl)) ⟨⟨_, (Or.inr rfl), rfl⟩, ⟨hF19, hk20⟩⟩
      · refine ra_load rfl rfl rfl rfl ?_
        refine ra_iconst rfl ?_
        refine ra_cB (sp_107 (by first | omega | (unfold ra_in at *; omega))) rfl (ct_107 rfl lk_6_50 (Or.inl rfl) sh_175 (Nat.le_of_ble_eq_true rfl)) (fun z22 s21  hz22 hs21 => ?_)
        have hF23 := Fr_tr (lo := 14) (hi := 177) hF6 hs21 (by omega)
        have hk24 : s21 (40) = σ (40) := (hs21 (40) (by omega)).trans hk7
        exact ra_ireturn rfl (ra_okB hz22) ⟨⟨_, hz22, rfl⟩, ⟨hF23, hk24⟩⟩
  · refine ra_iconst rfl ?_
    exact ra_ireturn rfl (ra_okB (Or.inl rfl)) ⟨⟨_, (Or.inl rfl), rfl⟩, ⟨hF6, hk7⟩⟩
theorem sp_103 {n : Nat} {f : Nat → Int32} {d : Nat} {E0 : Nat} {σ : ra_V} (hE0 : isD E0) (hq : E0 = 14) : ra_C (g_Gs n f) g_sh 0 (d + 4) 103 [.index (175), .index (E0)] σ (fun r s => rB r ∧ Fr (14) (177) σ s ∧ s (40) = σ (40)) := by
  refine ra_enter (nn := 3) mt_103 rfl (Nat.le_of_ble_eq_true rfl) rfl (fun h => absurd h (by decide +kernel)) ?_
  refine ra_load rfl rfl rfl rfl ?_
  refine ra_cIp (sp_4 hE0) rfl (ct_4 rfl lk_6_102 (Or.inl rfl) (sh_D hE0) (Nat.le_of_ble_eq_true rfl)) (fun z2 hz2 => ?_)
  refine ra_bipush rfl (by decide) ?_
  refine ra_iclt rfl rfl hz2 (by first | omega | (unfold ra_in at *; omega)) (fun h3 => ?_) (fun h3 => ?_)
  · refine ra_load rfl rfl rfl rfl ?_
    refine ra_load rfl rfl rfl rfl ?_
    refine ra_getI rfl lk_6_106 (Nat.zero_le _) (sh_D hE0) rfl ?_
    refine ra_gen (fun z4 hz4 => ?_)
    refine ra_load rfl rfl rfl rfl ?_
    refine ra_cIp (sp_9 hE0) rfl (ct_9 rfl lk_6_114 (Or.inl rfl) (sh_D hE0) (Nat.le_of_ble_eq_true rfl)) (fun z6 hz6 => ?_)
    refine ra_iconst rfl ?_
    refine ra_isub rfl ?_
    refine ra_gen (fun z7 hz7 => ?_)
    refine ra_cB (sp_106 hz4 hz7) rfl (ct_106 rfl lk_6_54 (Or.inl rfl) sh_175 (Nat.le_of_ble_eq_true rfl)) (fun z9 s8  hz9 hs8 => ?_)
    have hF10 := Fr_tr (lo := 14) (hi := 177) Fr_rf hs8 (by omega)
    have hk11 : s8 (40) = σ (40) := (hs8 (40) (by omega))
    refine ra_ifne rfl rfl (ra_in01 hz9) (fun h12 => ?_) (fun h12 => ?_)
    · refine ra_load rfl rfl rfl rfl ?_
      refine ra_getI rfl lk_6_58 (Nat.zero_le _) sh_175 rfl ?_
      refine ra_gen (fun z13 hz13 => ?_)
      refine ra_store (L' := [_, _, _, _, _]) rfl rfl rfl (Nat.le_of_ble_eq_true rfl) rfl ?_
      refine ra_load rfl rfl rfl rfl ?_
      refine ra_load rfl rfl rfl rfl ?_
      refine ra_cBp (sp_11 hE0 hz13) rfl (ct_11 rfl lk_6_117 (Or.inl rfl) (sh_D hE0) (Nat.le_of_ble_eq_true rfl)) (fun z15 hz15 => ?_)
      refine ra_ifne rfl rfl (ra_in01 hz15) (fun h16 => ?_) (fun h16 => ?_)
      · refine ra_load rfl rfl rfl rfl ?_
        refine ra_iconst rfl ?_
        refine ra_load rfl rfl rfl rfl ?_
        refine ra_cIp (sp_9 hE0) rfl (ct_9 rfl lk_6_114 (Or.inl rfl) (sh_D hE0) (Nat.le_of_ble_eq_true rfl)) (fun z18 hz18 => ?_)
        refine ra_load rfl rfl rfl rfl ?_
        refine ra_isub rfl ?_
        refine ra_gen (fun z19 hz19 => ?_)
        refine ra_cB (sp_106 (by first | omega | (unfold ra_in at *; omega)) hz19) rfl (ct_106 rfl lk_6_54 (Or.inl rfl) sh_175 (Nat.le_of_ble_eq_true rfl)) (fun z21 s20  hz21 hs20 => ?_)
        have hF22 := Fr_tr (lo := 14) (hi := 177) hF10 hs20 (by omega)
        have hk23 : s20 (40) = σ (40) := (hs20 (40) (by omega)).trans hk11
        refine ra_ifne rfl rfl (ra_in01 hz21) (fun h24 => ?_) (fun h24 => ?_)
        · refine ra_load rfl rfl rfl rfl ?_
          refine ra_getI rfl lk_6_58 (Nat.zero_le _) sh_175 rfl ?_
          refine ra_gen (fun z25 hz25 => ?_)
          refine ra_store (L' := [_, _, _, _, _]) rfl rfl rfl (Nat.le_of_ble_eq_true rfl) rfl ?_
          refine ra_load rfl rfl rfl rfl ?_
          refine ra_load rfl rfl rfl rfl ?_
          refine ra_i2l rfl hz13 ?_
          refine ra_load rfl rfl rfl rfl ?_
          refine ra_i2l rfl hz25 ?_
          refine ra_cIp (sp_12 hE0 hz13 hz25) rfl (ct_12 rfl lk_6_120 (Or.inl rfl) (sh_D hE0) (Nat.le_of_ble_eq_true rfl)) (fun z27 hz27 => ?_)
          refine ra_ifeq rfl rfl hz27 (fun h28 => ?_) (fun h28 => ?_)
          · refine ra_load rfl rfl rfl rfl ?_
            refine ra_iconst rfl ?_
            refine ra_bipush rfl (by decide) ?_
            refine ra_cB (sp_106 (by first | omega | (unfold ra_in at *; omega)) (by first | omega | (unfold ra_in at *; omega))) rfl (ct_106 rfl lk_6_54 (Or.inl rfl) sh_175 (Nat.le_of_ble_eq_true rfl)) (fun z30 s29  hz30 hs29 => ?_)
            have hF31 := Fr_tr (lo := 14) (hi := 177) hF22 hs29 (by omega)
            have hk32 : s29 (40) = σ (40) := (hs29 (40) (by omega)).trans hk23
            refine ra_ifne rfl rfl (ra_in01 hz30) (fun h33 => ?_) (fun h33 => ?_)
            · refine ra_load rfl rfl rfl rfl ?_
              refine ra_getI rfl lk_6_58 (Nat.zero_le _) sh_175 rfl ?_
              refine ra_gen (fun z34 hz34 => ?_)
              refine ra_store (L' := [_, _, _, _, _]) rfl rfl rfl (Nat.le_of_ble_eq_true rfl) rfl ?_
              refine ra_load rfl rfl rfl rfl ?_
              refine ra_iconst rfl ?_
              refine ra_load rfl rfl rfl rfl ?_
              refine ra_cB (sp_106 (by first | omega | (unfold ra_in at *; omega)) hz25) rfl (ct_106 rfl lk_6_54 (Or.inl rfl) sh_175 (Nat.le_of_ble_eq_true rfl)) (fun z36 s35  hz36 hs35 => ?_)
              have hF37 := Fr_tr (lo := 14) (hi := 177) hF31 hs35 (by omega)
              have hk38 : s35 (40) = σ (40) := (hs35 (40) (by omega)).trans hk32
              refine ra_ifne rfl rfl (ra_in01 hz36) (fun h39 => ?_) (fun h39 => ?_)
              · refine ra_load rfl rfl rfl rfl ?_
                refine ra_load rfl rfl rfl rfl ?_
                refine ra_load rfl rfl rfl rfl ?_
                refine ra_load rfl rfl rfl rfl ?_
                refine ra_load rfl rfl rfl rfl ?_
                refine ra_getI rfl lk_6_58 (Nat.zero_le _) sh_175 rfl ?_
                refine ra_gen (fun z40 hz40 => ?_)
                refine ra_cI (sp_33 hE0 hz13 hz25 hz34 hz40) rfl (ct_33 rfl lk_6_124 (Or.inl rfl) (sh_D hE0) (Nat.le_of_ble_eq_true rfl)) (fun z42 s41  hz42 hs41 => ?_)
                have hF43 := Fr_tr (lo := 14) (hi := 177) hF37 hs41 (by omega)
                have hk44 : s41 (40) = σ (40) := (hs41 (40) (by omega)).trans hk38
                refine ra_pop rfl rfl ?_
                refine ra_iconst rfl ?_
                exact ra_ireturn rfl (ra_okB (Or.inr rfl)) ⟨⟨_, (Or.inr rfl), rfl⟩, ⟨hF43, hk44⟩⟩
              · refine ra_iconst rfl ?_
                exact ra_ireturn rfl (ra_okB (Or.inl rfl)) ⟨⟨_, (Or.inl rfl), rfl⟩, ⟨hF37, hk38⟩⟩
            · refine ra_iconst rfl ?_
              exact ra_ireturn rfl (ra_okB (Or.inl rfl)) ⟨⟨_, (Or.inl rfl), rfl⟩, ⟨hF31, hk32⟩⟩
          · refine ra_load rfl rfl rfl rfl ?_
            refine ra_iconst rfl ?_
            refine ra_cB (sp_107 (by first | omega | (unfold ra_in at *; omega))) rfl (ct_107 rfl lk_6_50 (Or.inl rfl) sh_175 (Nat.le_of_ble_eq_true rfl)) (fun z46 s45  hz46 hs45 => ?_)
            have hF47 := Fr_tr (lo := 14) (hi := 177) hF22 hs45 (by omega)
            have hk48 : s45 (40) = σ (40) := (hs45 (40) (by omega)).trans hk23
            exact ra_ireturn rfl (ra_okB hz46) ⟨⟨_, hz46, rfl⟩, ⟨hF47, hk48⟩⟩
        · refine ra_iconst rfl ?_
          exact ra_ireturn rfl (ra_okB (Or.inl rfl)) ⟨⟨_, (Or.inl rfl), rfl⟩, ⟨hF22, hk23⟩⟩
      · refine ra_load rfl rfl rfl rfl ?_
        refine ra_iconst rfl ?_
        refine ra_cB (sp_107 (by first | omega | (unfold ra_in at *; omega))) rfl (ct_107 rfl lk_6_50 (Or.inl rfl) sh_175 (Nat.le_of_ble_eq_true rfl)) (fun z50 s49  hz50 hs49 => ?_)
        have hF51 := Fr_tr (lo := 14) (hi := 177) hF10 hs49 (by omega)
        have hk52 : s49 (40) = σ (40) := (hs49 (40) (by omega)).trans hk11
        exact ra_ireturn rfl (ra_okB hz50) ⟨⟨_, hz50, rfl⟩, ⟨hF51, hk52⟩⟩
    · refine ra_iconst rfl ?_
      exact ra_ireturn rfl (ra_okB (Or.inl rfl)) ⟨⟨_, (Or.inl rfl), rfl⟩, ⟨hF10, hk11⟩⟩
  · refine ra_load rfl rfl rfl rfl ?_
    refine ra_iconst rfl ?_
    refine ra_cB (sp_107 (by first | omega | (unfold ra_in at *; omega))) rfl (ct_107 rfl lk_6_50 (Or.inl rfl) sh_175 (Nat.le_of_ble_eq_true rfl)) (fun z54 s53  hz54 hs53 => ?_)
    have hF55 := Fr_tr (lo := 14) (hi := 177) Fr_rf hs53 (by omega)
    have hk56 : s53 (40) = σ (40) := (hs53 (40) (by omega))
    exact ra_ireturn rfl (ra_okB hz54) ⟨⟨_, hz54, rfl⟩, ⟨hF55, hk56⟩⟩
theorem sp_100 {n : Nat} {f : Nat → Int32} {d : Nat} {E0 : Nat} {σ : ra_V} (hE0 : isD E0) (hq : E0 = 14) : ra_C (g_Gs n f) g_sh 0 (d + 8) 100 [.index (175), .index (E0)] σ (fun r s => rB r ∧ Fr (14) (177) σ s ∧ s (40) = σ (40)) := by
  refine ra_enter (nn := 0) mt_100 rfl (Nat.le_of_ble_eq_true rfl) rfl (fun h => absurd h (by decide +kernel)) ?_
  refine ra_load rfl rfl rfl rfl ?_
  refine ra_ldcS rfl lk_6_78 ?_
  refine ra_cBp (sp_112 lk_6_78 (by decide)) rfl (ct_112 rfl lk_6_46 (Or.inl rfl) sh_175 (Nat.le_of_ble_eq_true rfl)) (fun z2 hz2 => ?_)
  refine ra_ifeq rfl rfl (ra_in01 hz2) (fun h3 => ?_) (fun h3 => ?_)
  · refine ra_load rfl rfl rfl rfl ?_
    refine ra_ldcS rfl lk_6_83 ?_
    refine ra_cBp (sp_112 lk_6_83 (by decide)) rfl (ct_112 rfl lk_6_46 (Or.inl rfl) sh_175 (Nat.le_of_ble_eq_true rfl)) (fun z5 hz5 => ?_)
    refine ra_ifeq rfl rfl (ra_in01 hz5) (fun h6 => ?_) (fun h6 => ?_)
    · refine ra_load rfl rfl rfl rfl ?_
      refine ra_ldcS rfl lk_6_88 ?_
      refine ra_cBp (sp_112 lk_6_88 (by decide)) rfl (ct_112 rfl lk_6_46 (Or.inl rfl) sh_175 (Nat.le_of_ble_eq_true rfl)) (fun z8 hz8 => ?_)
      refine ra_ifeq rfl rfl (ra_in01 hz8) (fun h9 => ?_) (fun h9 => ?_)
      · refine ra_load rfl rfl rfl rfl ?_
        refine ra_load rfl rfl rfl rfl ?_
        refine ra_cB (sp_101 hE0 (by first | assumption | rfl | omega)) rfl (ct_101 rfl lk_6_93 (Or.inl rfl) sh_175 (Nat.le_of_ble_eq_true rfl)) (fun z11 s10  hz11 hs10 => ?_)
        obtain ⟨hf12, hc13⟩ := hs10
        have hF14 := Fr_tr (lo := 14) (hi := 177) Fr_rf hf12 (by omega)
        have hk15 : s10 (40) = σ (40) := hc13
        refine ra_ifeq rfl rfl (ra_in01 hz11) (fun h16 => ?_) (fun h16 => ?_)
        · refine ra_iconst rfl ?_
          exact ra_ireturn rfl (ra_okB (Or.inl rfl)) ⟨⟨_, (Or.inl rfl), rfl⟩, ⟨hF14, hk15⟩⟩
        · refine ra_load rfl rfl rfl rfl ?_
          refine ra_cB (sp_105 ) rfl (ct_105 rfl lk_6_67 (Or.inl rfl) sh_175 (Nat.le_of_ble_eq_true rfl)) (fun z18 s17  hz18 hs17 => ?_)
          have hF19 := Fr_tr (lo := 14) (hi := 177) hF14 hs17 (by omega)
          have hk20 : s17 (40) = σ (40) := (hs17 (40) (by omega)).trans hk15
          refine ra_ifeq rfl rfl (ra_in01 hz18) (fun h21 => ?_) (fun h21 => ?_)
          · refine ra_iconst rfl ?_
            exact ra_ireturn rfl (ra_okB (Or.inl rfl)) ⟨⟨_, (Or.inl rfl), rfl⟩, ⟨hF19, hk20⟩⟩
          · refine ra_iconst rfl ?_
            refine ra_goto rfl rfl ?_
            exact ra_ireturn rfl (ra_okB (Or.inr rfl)) ⟨⟨_, (Or.inr rfl), rfl⟩, ⟨hF19, hk20⟩⟩
      · refine ra_load rfl rfl rfl rfl ?_
        refine ra_load rfl rfl rfl rfl ?_
        refine ra_cB (sp_102 hE0 (by first | assumption | rfl | omega)) rfl (ct_102 rfl lk_6_90 (Or.inl rfl) sh_175 (Nat.le_of_ble_eq_true rfl)) (fun z23 s22  hz23 hs22 => ?_)
        obtain ⟨hf24, hc25⟩ := hs22
        have hF26 := Fr_tr (lo := 14) (hi := 177) Fr_rf hf24 (by omega)
        have hk27 : s22 (40) = σ (40) := hc25
        refine ra_ifeq rfl rfl (ra_in01 hz23) (fun h28 => ?_) (fun h28 => ?_)
        · refine ra_iconst rfl ?_
          exact ra_ireturn rfl (ra_okB (Or.inl rfl)) ⟨⟨_, (Or.inl rfl), rfl⟩, ⟨hF26, hk27⟩⟩
        · refine ra_load rfl rfl rfl rfl ?_
          refine ra_cB (sp_105 ) rfl (ct_105 rfl lk_6_67 (Or.inl rfl) sh_175 (Nat.le_of_ble_eq_true rfl)) (fun z30 s29  hz30 hs29 => ?_)
          have hF31 := Fr_tr (lo := 14) (hi := 177) hF26 hs29 (by omega)
          have hk32 : s29 (40) = σ (40) := (hs29 (40) (by omega)).trans hk27
          refine ra_ifeq rfl rfl (ra_in01 hz30) (fun h33 => ?_) (fun h33 => ?_)
          · refine ra_iconst rfl ?_
            exact ra_ireturn rfl (ra_okB (Or.inl rfl)) ⟨⟨_, (Or.inl rfl), rfl⟩, ⟨hF31, hk32⟩⟩
          · refine ra_iconst rfl ?_
            refine ra_goto rfl rfl ?_
            exact ra_ireturn rfl (ra_okB (Or.inr rfl)) ⟨⟨_, (Or.inr rfl), rfl⟩, ⟨hF31, hk32⟩⟩
    · refine ra_load rfl rfl rfl rfl ?_
      refine ra_load rfl rfl rfl rfl ?_
      refine ra_cB (sp_104 hE0 (by first | assumption | rfl | omega)) rfl (ct_104 rfl lk_6_85 (Or.inl rfl) sh_175 (Nat.le_of_ble_eq_true rfl)) (fun z35 s34  hz35 hs34 => ?_)
      obtain ⟨hf36, hc37⟩ := hs34
      have hF38 := Fr_tr (lo := 14) (hi := 177) Fr_rf hf36 (by omega)
      have hk39 : s34 (40) = σ (40) := hc37
      refine ra_ifeq rfl rfl (ra_in01 hz35) (fun h40 => ?_) (fun h40 => ?_)
      · refine ra_iconst rfl ?_
        exact ra_ireturn rfl (ra_okB (Or.inl rfl)) ⟨⟨_, (Or.inl rfl), rfl⟩, ⟨hF38, hk39⟩⟩
      · refine ra_load rfl rfl rfl rfl ?_
        refine ra_cB (sp_105 ) rfl (ct_105 rfl lk_6_67 (Or.inl rfl) sh_175 (Nat.le_of_ble_eq_true rfl)) (fun z42 s41  hz42 hs41 => ?_)
        have hF43 := Fr_tr (lo := 14) (hi := 177) hF38 hs41 (by omega)
        have hk44 : s41 (40) = σ (40) := (hs41 (40) (by omega)).trans hk39
        refine ra_ifeq rfl rfl (ra_in01 hz42) (fun h45 => ?_) (fun h45 => ?_)
        · refine ra_iconst rfl ?_
          exact ra_ireturn rfl (ra_okB (Or.inl rfl)) ⟨⟨_, (Or.inl rfl), rfl⟩, ⟨hF43, hk44⟩⟩
        · refine ra_iconst rfl ?_
          refine ra_goto rfl rfl ?_
          exact ra_ireturn rfl (ra_okB (Or.inr rfl)) ⟨⟨_, (Or.inr rfl), rfl⟩, ⟨hF43, hk44⟩⟩
  · refine ra_load rfl rfl rfl rfl ?_
    refine ra_load rfl rfl rfl rfl ?_
    refine ra_cB (sp_103 hE0 (by first | assumption | rfl | omega)) rfl (ct_103 rfl lk_6_80 (Or.inl rfl) sh_175 (Nat.le_of_ble_eq_true rfl)) (fun z47 s46  hz47 hs46 => ?_)
    obtain ⟨hf48, hc49⟩ := hs46
    have hF50 := Fr_tr (lo := 14) (hi := 177) Fr_rf hf48 (by omega)
    have hk51 : s46 (40) = σ (40) := hc49
    refine ra_ifeq rfl rfl (ra_in01 hz47) (fun h52 => ?_) (fun h52 => ?_)
    · refine ra_iconst rfl ?_
      exact ra_ireturn rfl (ra_okB (Or.inl rfl)) ⟨⟨_, (Or.inl rfl), rfl⟩, ⟨hF50, hk51⟩⟩
    · refine ra_load rfl rfl rfl rfl ?_
      refine ra_cB (sp_105 ) rfl (ct_105 rfl lk_6_67 (Or.inl rfl) sh_175 (Nat.le_of_ble_eq_true rfl)) (fun z54 s53  hz54 hs53 => ?_)
      have hF55 := Fr_tr (lo := 14) (hi := 177) hF50 hs53 (by omega)
      have hk56 : s53 (40) = σ (40) := (hs53 (40) (by omega)).trans hk51
      refine ra_ifeq rfl rfl (ra_in01 hz54) (fun h57 => ?_) (fun h57 => ?_)
      · refine ra_iconst rfl ?_
        exact ra_ireturn rfl (ra_okB (Or.inl rfl)) ⟨⟨_, (Or.inl rfl), rfl⟩, ⟨hF55, hk56⟩⟩
      · refine ra_iconst rfl ?_
        refine ra_goto rfl rfl ?_
        exact ra_ireturn rfl (ra_okB (Or.inr rfl)) ⟨⟨_, (Or.inr rfl), rfl⟩, ⟨hF55, hk56⟩⟩
theorem lp_99_83 {n : Nat} {f : Nat → Int32} {d : Nat} {E0 : Nat} {σ : ra_V} (hE0 : isD E0) (hq : E0 = 14) : ∀ (nn : Nat) (v2 : Int) (v3 : Int) (s : ra_V) (hv2 : v2 = 0 ∨ v2 = 1) (hv3_0 : 0 ≤ v3) (hv3_1 : v3 ≤ 500) (hF : Fr (14) (177) σ s) (hk0 : s (40) = σ (40)) (hm : ((500 - v3 : Int)).toNat < nn), ra_P (g_Gs n f) g_sh 0 (d + 8) g_m_X6_parseInto 83 [some (.index (175)), some (.index (E0)), some (ra_I v2), some (ra_I v3)] [] s (fun r s => rB r ∧ Fr (14) (177) σ s ∧ s (40) = σ (40)) := by
  intro nn
  induction nn with
  | zero => intro v2 v3 s hv2 hv3_0 hv3_1 hF hk0 hm; exact absurd hm (Nat.not_lt_zero _)
  | succ nn ih =>
    intro v2 v3 s hv2 hv3_0 hv3_1 hF hk0 hm
    refine ra_load rfl rfl rfl rfl ?_
    refine ra_ifeq rfl rfl (ra_in01 hv2) (fun h41 => ?_) (fun h41 => ?_)
    · refine ra_load rfl rfl rfl rfl ?_
      exact ra_ireturn rfl (ra_okB hv2) ⟨⟨_, hv2, rfl⟩, ⟨hF, hk0⟩⟩
    · refine ra_load rfl rfl rfl rfl ?_
      refine ra_sipush rfl (by decide) ?_
      refine ra_icge rfl rfl (by first | omega | (unfold ra_in at *; omega)) (by first | omega | (unfold ra_in at *; omega)) (fun h42 => ?_) (fun h42 => ?_)
      · refine ra_load rfl rfl rfl rfl ?_
        exact ra_ireturn rfl (ra_okB hv2) ⟨⟨_, hv2, rfl⟩, ⟨hF, hk0⟩⟩
      · refine ra_load rfl rfl rfl rfl ?_
        refine ra_cV (sp_111 ) rfl (ct_111 rfl lk_6_41 (Or.inl rfl) sh_175 (Nat.le_of_ble_eq_true rfl)) (fun s43 hs43 => ?_)
        have hF44 := Fr_tr (lo := 14) (hi := 177) hF hs43 (by omega)
        have hk45 : s43 (40) = σ (40) := (hs43 (40) (by omega)).trans hk0
        refine ra_load rfl rfl rfl rfl ?_
        refine ra_getI rfl lk_6_71 (Nat.zero_le _) sh_175 rfl ?_
        refine ra_gen (fun z46 hz46 => ?_)
        refine ra_ifne rfl rfl hz46 (fun h47 => ?_) (fun h47 => ?_)
        · refine ra_load rfl rfl rfl rfl ?_
          refine ra_load rfl rfl rfl rfl ?_
          refine ra_cB (sp_100 hE0 (by first | assumption | rfl | omega)) rfl (ct_100 rfl lk_6_74 (Or.inl rfl) sh_175 (Nat.le_of_ble_eq_true rfl)) (fun z49 s48  hz49 hs48 => ?_)
          obtain ⟨hf50, hc51⟩ := hs48
          have hF52 := Fr_tr (lo := 14) (hi := 177) hF44 hf50 (by omega)
          have hk53 : s48 (40) = σ (40) := hc51.trans hk45
          refine ra_store (L' := [_, _, _, _]) rfl rfl rfl (Nat.le_of_ble_eq_true rfl) rfl ?_
          refine ra_iinc (L' := [_, _, _, _]) rfl rfl (Nat.le_of_ble_eq_true rfl) rfl ?_
          refine ra_goto rfl rfl ?_
          exact ra_weak (by repeat' constructor) (ih z49 (v3 + 1) s48 hz49 (by first | omega | (unfold ra_in at *; omega)) (by first | omega | (unfold ra_in at *; omega)) hF52 hk53 (by first | omega | (unfold ra_in at *; omega)))
        · refine ra_iconst rfl ?_
          exact ra_ireturn rfl (ra_okB (Or.inr rfl)) ⟨⟨_, (Or.inr rfl), rfl⟩, ⟨hF44, hk45⟩⟩
theorem sp_99 {n : Nat} {f : Nat → Int32} {d : Nat} {E0 : Nat} {σ : ra_V} (hE0 : isD E0) (hq : E0 = 14) : ra_C (g_Gs n f) g_sh 0 (d + 9) 99 [.index (175), .index (E0)] σ (fun r s => rB r ∧ Fr (14) (177) σ s ∧ s (40) = σ (40)) := by
  refine ra_enter (nn := 2) mt_99 rfl (Nat.le_of_ble_eq_true rfl) rfl (fun h => absurd h (by decide +kernel)) ?_
  refine ra_load rfl rfl rfl rfl ?_
  refine ra_iconst rfl ?_
  refine ra_putI rfl lk_6_15 (Nat.zero_le _) sh_175 rfl rfl ?_
  refine ra_new Fr_up (fun s1 hs1 => ?_)
  have hF2 := Fr_tr (lo := 14) (hi := 177) Fr_rf hs1 (by omega)
  have hk3 : s1 (40) = σ (40) := (hs1 (40) (by omega))
  refine ra_load rfl rfl rfl rfl ?_
  refine ra_iconst rfl ?_
  refine ra_putI rfl lk_6_19 (Nat.zero_le _) sh_175 rfl rfl ?_
  refine ra_new Fr_up (fun s4 hs4 => ?_)
  have hF5 := Fr_tr (lo := 14) (hi := 177) hF2 hs4 (by omega)
  have hk6 : s4 (40) = σ (40) := (hs4 (40) (by omega)).trans hk3
  refine ra_load rfl rfl rfl rfl ?_
  refine ra_iconst rfl ?_
  refine ra_putI rfl lk_6_25 (Nat.zero_le _) sh_175 rfl rfl ?_
  refine ra_new Fr_up (fun s7 hs7 => ?_)
  have hF8 := Fr_tr (lo := 14) (hi := 177) hF5 hs7 (by omega)
  have hk9 : s7 (40) = σ (40) := (hs7 (40) (by omega)).trans hk6
  refine ra_load rfl rfl rfl rfl ?_
  refine ra_iconst rfl ?_
  refine ra_putB rfl lk_6_28 (Nat.zero_le _) sh_175 rfl rfl (Or.inl rfl) ?_
  refine ra_new Fr_up (fun s10 hs10 => ?_)
  have hF11 := Fr_tr (lo := 14) (hi := 177) hF8 hs10 (by omega)
  have hk12 : s10 (40) = σ (40) := (hs10 (40) (by omega)).trans hk9
  refine ra_load rfl rfl rfl rfl ?_
  refine ra_iconst rfl ?_
  refine ra_putB rfl lk_6_32 (Nat.zero_le _) sh_175 rfl rfl (Or.inl rfl) ?_
  refine ra_new Fr_up (fun s13 hs13 => ?_)
  have hF14 := Fr_tr (lo := 14) (hi := 177) hF11 hs13 (by omega)
  have hk15 : s13 (40) = σ (40) := (hs13 (40) (by omega)).trans hk12
  refine ra_load rfl rfl rfl rfl ?_
  refine ra_iconst rfl ?_
  refine ra_putB rfl lk_6_35 (Nat.zero_le _) sh_175 rfl rfl (Or.inl rfl) ?_
  refine ra_new Fr_up (fun s16 hs16 => ?_)
  have hF17 := Fr_tr (lo := 14) (hi := 177) hF14 hs16 (by omega)
  have hk18 : s16 (40) = σ (40) := (hs16 (40) (by omega)).trans hk15
  refine ra_load rfl rfl rfl rfl ?_
  refine ra_iconst rfl ?_
  refine ra_putB rfl lk_6_38 (Nat.zero_le _) sh_175 rfl rfl (Or.inl rfl) ?_
  refine ra_new Fr_up (fun s19 hs19 => ?_)
  have hF20 := Fr_tr (lo := 14) (hi := 177) hF17 hs19 (by omega)
  have hk21 : s19 (40) = σ (40) := (hs19 (40) (by omega)).trans hk18
  refine ra_load rfl rfl rfl rfl ?_
  refine ra_cV (sp_111 ) rfl (ct_111 rfl lk_6_41 (Or.inl rfl) sh_175 (Nat.le_of_ble_eq_true rfl)) (fun s22 hs22 => ?_)
  have hF23 := Fr_tr (lo := 14) (hi := 177) hF20 hs22 (by omega)
  have hk24 : s22 (40) = σ (40) := (hs22 (40) (by omega)).trans hk21
  refine ra_load rfl rfl rfl rfl ?_
  refine ra_ldcS rfl lk_6_44 ?_
  refine ra_cBp (sp_112 lk_6_44 (by decide)) rfl (ct_112 rfl lk_6_46 (Or.inl rfl) sh_175 (Nat.le_of_ble_eq_true rfl)) (fun z26 hz26 => ?_)
  refine ra_ifne rfl rfl (ra_in01 hz26) (fun h27 => ?_) (fun h27 => ?_)
  · refine ra_load rfl rfl rfl rfl ?_
    refine ra_bipush rfl (by decide) ?_
    refine ra_sipush rfl (by decide) ?_
    refine ra_cB (sp_106 (by first | omega | (unfold ra_in at *; omega)) (by first | omega | (unfold ra_in at *; omega))) rfl (ct_106 rfl lk_6_54 (Or.inl rfl) sh_175 (Nat.le_of_ble_eq_true rfl)) (fun z29 s28  hz29 hs28 => ?_)
    have hF30 := Fr_tr (lo := 14) (hi := 177) hF23 hs28 (by omega)
    have hk31 : s28 (40) = σ (40) := (hs28 (40) (by omega)).trans hk24
    refine ra_ifne rfl rfl (ra_in01 hz29) (fun h32 => ?_) (fun h32 => ?_)
    · refine ra_load rfl rfl rfl rfl ?_
      refine ra_load rfl rfl rfl rfl ?_
      refine ra_getI rfl lk_6_58 (Nat.zero_le _) sh_175 rfl ?_
      refine ra_gen (fun z33 hz33 => ?_)
      refine ra_cV (sp_1 hE0 hz33) rfl (ct_1 rfl lk_6_61 (Or.inl rfl) (sh_D hE0) (Nat.le_of_ble_eq_true rfl)) (fun s34 hs34 => ?_)
      have hF35 := Fr_tr (lo := 14) (hi := 177) hF30 hs34 (by omega)
      have hk36 : s34 (40) = σ (40) := (hs34 (40) (by omega)).trans hk31
      refine ra_load rfl rfl rfl rfl ?_
      refine ra_cB (sp_105 ) rfl (ct_105 rfl lk_6_67 (Or.inl rfl) sh_175 (Nat.le_of_ble_eq_true rfl)) (fun z38 s37  hz38 hs37 => ?_)
      have hF39 := Fr_tr (lo := 14) (hi := 177) hF35 hs37 (by omega)
      have hk40 : s37 (40) = σ (40) := (hs37 (40) (by omega)).trans hk36
      refine ra_store (L' := [_, _, _, _]) rfl rfl rfl (Nat.le_of_ble_eq_true rfl) rfl ?_
      refine ra_iconst rfl ?_
      refine ra_store (L' := [_, _, _, _]) rfl rfl rfl (Nat.le_of_ble_eq_true rfl) rfl ?_
      exact ra_weak (by repeat' constructor) (lp_99_83 hE0 hq _ z38 (0) s37 hz38 (by first | omega | (unfold ra_in at *; omega)) (by first | omega | (unfold ra_in at *; omega)) hF39 hk40 (Nat.lt_succ_self _))
    · refine ra_iconst rfl ?_
      exact ra_ireturn rfl (ra_okB (Or.inl rfl)) ⟨⟨_, (Or.inl rfl), rfl⟩, ⟨hF30, hk31⟩⟩
  · refine ra_load rfl rfl rfl rfl ?_
    refine ra_iconst rfl ?_
    refine ra_cB (sp_107 (by first | omega | (unfold ra_in at *; omega))) rfl (ct_107 rfl lk_6_50 (Or.inl rfl) sh_175 (Nat.le_of_ble_eq_true rfl)) (fun z55 s54  hz55 hs54 => ?_)
    have hF56 := Fr_tr (lo := 14) (hi := 177) hF23 hs54 (by omega)
    have hk57 : s54 (40) = σ (40) := (hs54 (40) (by omega)).trans hk24
    exact ra_ireturn rfl (ra_okB hz55) ⟨⟨_, hz55, rfl⟩, ⟨hF56, hk57⟩⟩
end CW
