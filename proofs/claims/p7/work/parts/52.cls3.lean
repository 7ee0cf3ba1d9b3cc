/-! the class: what its methods do, told weakly (printed by wip/gen/cls.py) -/
section CW
theorem lp_78_4 {n : Nat} {f : Nat → Int32} {d : Nat} {D : Nat} {σ : ra_V} (hD : isD D) : ∀ (nn : Nat) (v1 : Int) (v2 : Int) (hv1 : ra_in v1) (hv2_0 : ra_in v2) (hm : ((ra_g σ (D + 3) 5 - v2 : Int)).toNat < nn), ra_P (g_Gs n f) g_sh 0 (d + 1) g_m_X3_blocksMoved 4 [some (.index (D + 3)), some (ra_I v1), some (ra_I v2)] [] σ (fun r s => rI r ∧ s = σ) := by
  intro nn
  induction nn with
  | zero => intro v1 v2 hv1 hv2_0 hm; exact absurd hm (Nat.not_lt_zero _)
  | succ nn ih =>
    intro v1 v2 hv1 hv2_0 hm
    have hb := ra_in_g σ (D + 3) 5
    refine ra_load rfl rfl rfl rfl ?_
    refine ra_load rfl rfl rfl rfl ?_
    refine ra_getI rfl lk_3_30 (Nat.zero_le _) (sh_D3 hD) rfl ?_
    refine ra_icge rfl rfl (by first | omega | (unfold ra_in at *; omega)) (ra_in_g _ _ _) (fun h1 => ?_) (fun h1 => ?_)
    · refine ra_load rfl rfl rfl rfl ?_
      exact ra_ireturn rfl rfl ⟨⟨_, hv1, rfl⟩, rfl⟩
    · refine ra_load rfl rfl rfl rfl ?_
      refine ra_load rfl rfl rfl rfl ?_
      refine ra_cBp (sp_70 hD (by first | omega | (unfold ra_in at *; omega))) rfl (ct_70 rfl lk_3_61 (Or.inl rfl) (sh_D3 hD) (Nat.le_of_ble_eq_true rfl)) (fun z3 hz3 => ?_)
      refine ra_ifeq rfl rfl (ra_in01 hz3) (fun h4 => ?_) (fun h4 => ?_)
      · refine ra_iinc (L' := [_, _, _]) rfl rfl (Nat.le_of_ble_eq_true rfl) rfl ?_
        refine ra_goto rfl rfl ?_
        exact ra_weak (by repeat' constructor) (ih v1 (v2 + 1) hv1 (by first | omega | (unfold ra_in at *; omega)) (by first | omega | (unfold ra_in at *; omega)))
      · refine ra_load rfl rfl rfl rfl ?_
        refine ra_load rfl rfl rfl rfl ?_
        refine ra_load rfl rfl rfl rfl ?_
        refine ra_cIp (sp_69 hD (by first | omega | (unfold ra_in at *; omega))) rfl (ct_69 rfl lk_3_44 (Or.inl rfl) (sh_D3 hD) (Nat.le_of_ble_eq_true rfl)) (fun z6 hz6 => ?_)
        refine ra_iadd rfl ?_
        refine ra_gen (fun z7 hz7 => ?_)
        refine ra_store (L' := [_, _, _]) rfl rfl rfl (Nat.le_of_ble_eq_true rfl) rfl ?_
        refine ra_iinc (L' := [_, _, _]) rfl rfl (Nat.le_of_ble_eq_true rfl) rfl ?_
        refine ra_goto rfl rfl ?_
        exact ra_weak (by repeat' constructor) (ih z7 (v2 + 1) hz7 (by first | omega | (unfold ra_in at *; omega)) (by first | omega | (unfold ra_in at *; omega)))
theorem sp_78 {n : Nat} {f : Nat → Int32} {d : Nat} {D : Nat} {σ : ra_V} (hD : isD D) : ra_C (g_Gs n f) g_sh 0 (d + 2) 78 [.index (D + 3)] σ (fun r s => rI r ∧ s = σ) := by
  refine ra_enter (nn := 2) mt_78 rfl (Nat.le_of_ble_eq_true rfl) rfl (fun h => absurd h (by decide +kernel)) ?_
  refine ra_iconst rfl ?_
  refine ra_store (L' := [_, _, _]) rfl rfl rfl (Nat.le_of_ble_eq_true rfl) rfl ?_
  refine ra_iconst rfl ?_
  refine ra_store (L' := [_, _, _]) rfl rfl rfl (Nat.le_of_ble_eq_true rfl) rfl ?_
  exact ra_weak (by repeat' constructor) (lp_78_4 hD _ (0) (0) (by first | omega | (unfold ra_in at *; omega)) (by first | omega | (unfold ra_in at *; omega)) (Nat.lt_succ_self _))
theorem lp_79_24 {n : Nat} {f : Nat → Int32} {d : Nat} {D : Nat} {σ : ra_V} (hD : isD D) : ∀ (nn : Nat) (v1 : Int) (v2 : Int) (hv1 : ra_in v1) (hv2_0 : ra_in v2) (hm : ((ra_g σ (D + 3) 5 - v2 : Int)).toNat < nn), ra_P (g_Gs n f) g_sh 0 (d + 1) g_m_X3_stepsLeft 24 [some (.index (D + 3)), some (ra_I v1), some (ra_I v2)] [] σ (fun r s => rI r ∧ s = σ) := by
  intro nn
  induction nn with
  | zero => intro v1 v2 hv1 hv2_0 hm; exact absurd hm (Nat.not_lt_zero _)
  | succ nn ih =>
    intro v1 v2 hv1 hv2_0 hm
    have hb := ra_in_g σ (D + 3) 5
    refine ra_load rfl rfl rfl rfl ?_
    refine ra_load rfl rfl rfl rfl ?_
    refine ra_getI rfl lk_3_30 (Nat.zero_le _) (sh_D3 hD) rfl ?_
    refine ra_icge rfl rfl (by first | omega | (unfold ra_in at *; omega)) (ra_in_g _ _ _) (fun h6 => ?_) (fun h6 => ?_)
    · refine ra_load rfl rfl rfl rfl ?_
      exact ra_ireturn rfl rfl ⟨⟨_, hv1, rfl⟩, rfl⟩
    · refine ra_load rfl rfl rfl rfl ?_
      refine ra_load rfl rfl rfl rfl ?_
      refine ra_cBp (sp_70 hD (by first | omega | (unfold ra_in at *; omega))) rfl (ct_70 rfl lk_3_61 (Or.inl rfl) (sh_D3 hD) (Nat.le_of_ble_eq_true rfl)) (fun z8 hz8 => ?_)
      refine ra_ifne rfl rfl (ra_in01 hz8) (fun h9 => ?_) (fun h9 => ?_)
      · refine ra_iinc (L' := [_, _, _]) rfl rfl (Nat.le_of_ble_eq_true rfl) rfl ?_
        refine ra_goto rfl rfl ?_
        exact ra_weak (by repeat' constructor) (ih v1 (v2 + 1) hv1 (by first | omega | (unfold ra_in at *; omega)) (by first | omega | (unfold ra_in at *; omega)))
      · refine ra_load rfl rfl rfl rfl ?_
        refine ra_load rfl rfl rfl rfl ?_
        refine ra_load rfl rfl rfl rfl ?_
        refine ra_cIp (sp_69 hD (by first | omega | (unfold ra_in at *; omega))) rfl (ct_69 rfl lk_3_44 (Or.inl rfl) (sh_D3 hD) (Nat.le_of_ble_eq_true rfl)) (fun z11 hz11 => ?_)
        refine ra_load rfl rfl rfl rfl ?_
        refine ra_getI rfl lk_3_21 (Nat.zero_le _) (sh_D3 hD) rfl ?_
        refine ra_gen (fun z12 hz12 => ?_)
        refine ra_load rfl rfl rfl rfl ?_
        refine ra_getI rfl lk_3_24 (Nat.zero_le _) (sh_D3 hD) rfl ?_
        refine ra_gen (fun z13 hz13 => ?_)
        refine ra_cIp (sp_188 hz12 hz13) rfl (ct_188 rfl lk_3_51 (Or.inr ⟨rfl, rfl⟩) (Nat.le_of_ble_eq_true rfl)) (fun z15 hz15 => ?_)
        refine ra_cIp (sp_189 hz11 hz15) rfl (ct_189 rfl lk_3_69 (Or.inr ⟨rfl, rfl⟩) (Nat.le_of_ble_eq_true rfl)) (fun z17 hz17 => ?_)
        refine ra_iadd rfl ?_
        refine ra_gen (fun z18 hz18 => ?_)
        refine ra_store (L' := [_, _, _]) rfl rfl rfl (Nat.le_of_ble_eq_true rfl) rfl ?_
        refine ra_iinc (L' := [_, _, _]) rfl rfl (Nat.le_of_ble_eq_true rfl) rfl ?_
        refine ra_goto rfl rfl ?_
        exact ra_weak (by repeat' constructor) (ih z18 (v2 + 1) hz18 (by first | omega | (unfold ra_in at *; omega)) (by first | omega | (unfold ra_in at *; omega)))
theorem sp_79 {n : Nat} {f : Nat → Int32} {d : Nat} {D : Nat} {σ : ra_V} (hD : isD D) : ra_C (g_Gs n f) g_sh 0 (d + 2) 79 [.index (D + 3)] σ (fun r s => rI r ∧ s = σ) := by
  refine ra_enter (nn := 2) mt_79 rfl (Nat.le_of_ble_eq_true rfl) rfl (fun h => absurd h (by decide +kernel)) ?_
  refine ra_load rfl rfl rfl rfl ?_
  refine ra_cBp (sp_67 hD) rfl (ct_67 rfl lk_3_65 (Or.inl rfl) (sh_D3 hD) (Nat.le_of_ble_eq_true rfl)) (fun z2 hz2 => ?_)
  refine ra_ifne rfl rfl (ra_in01 hz2) (fun h3 => ?_) (fun h3 => ?_)
  · refine ra_load rfl rfl rfl rfl ?_
    refine ra_getBw rfl lk_3_36 (Nat.zero_le _) (sh_D3 hD) rfl (fun z4 hz4 => ?_)
    refine ra_ifeq rfl rfl (ra_in01 hz4) (fun h5 => ?_) (fun h5 => ?_)
    · refine ra_iconst rfl ?_
      refine ra_store (L' := [_, _, _]) rfl rfl rfl (Nat.le_of_ble_eq_true rfl) rfl ?_
      refine ra_iconst rfl ?_
      refine ra_store (L' := [_, _, _]) rfl rfl rfl (Nat.le_of_ble_eq_true rfl) rfl ?_
      exact ra_weak (by repeat' constructor) (lp_79_24 hD _ (0) (0) (by first | omega | (unfold ra_in at *; omega)) (by first | omega | (unfold ra_in at *; omega)) (Nat.lt_succ_self _))
    · refine ra_iconst rfl ?_
      refine ra_goto rfl rfl ?_
      refine ra_store (L' := [_, _, _]) rfl rfl rfl (Nat.le_of_ble_eq_true rfl) rfl ?_
      refine ra_iconst rfl ?_
      refine ra_store (L' := [_, _, _]) rfl rfl rfl (Nat.le_of_ble_eq_true rfl) rfl ?_
      exact ra_weak (by repeat' constructor) (lp_79_24 hD _ (-1) (0) (by first | omega | (unfold ra_in at *; omega)) (by first | omega | (unfold ra_in at *; omega)) (Nat.lt_succ_self _))
  · refine ra_iconst rfl ?_
    exact ra_ireturn rfl rfl ⟨⟨_, (by first | omega | (unfold ra_in at *; omega)), rfl⟩, rfl⟩
theorem sp_175 {n : Nat} {f : Nat → Int32} {d : Nat}  {σ : ra_V}  : ra_C (g_Gs n f) g_sh 0 (d + 6) 175 [.index (0)] σ (fun r s => rR 172 r ∧ Fr (172) (175) σ s) := by
  refine ra_enter (nn := 0) mt_175 rfl (Nat.le_of_ble_eq_true rfl) rfl (fun h => absurd h (by decide +kernel)) ?_
  refine ra_load rfl rfl rfl rfl ?_
  refine ra_getR rfl lk_7_32 (Nat.zero_le _) sh_0 rfl ?_
  refine ra_load rfl rfl rfl rfl ?_
  refine ra_getR rfl lk_7_10 (Nat.zero_le _) sh_0 rfl ?_
  refine ra_cV (sp_48 isD_1) rfl (ct_48 rfl lk_7_437 (Or.inl rfl) sh_172 (Nat.le_of_ble_eq_true rfl)) (fun s1 hs1 => ?_)
  have hF2 := Fr_tr (lo := 172) (hi := 175) Fr_rf hs1 (by omega)
  refine ra_load rfl rfl rfl rfl ?_
  refine ra_getR rfl lk_7_32 (Nat.zero_le _) sh_0 rfl ?_
  exact ra_areturn rfl rfl ⟨rfl, hF2⟩
theorem sp_176 {n : Nat} {f : Nat → Int32} {d : Nat} {x0 : Int} {σ : ra_V} (hx0 : ra_in x0) : ra_C (g_Gs n f) g_sh 0 (d + 6) 176 [.index (0), ra_I x0] σ (fun r s => rX ["java/util/NoSuchElementException"] (rN 1) r ∧ s = σ) := by
  refine ra_enter (nn := 1) mt_176 rfl (Nat.le_of_ble_eq_true rfl) rfl (fun _ => by omega) ?_
  refine ra_load rfl rfl rfl rfl ?_
  refine ra_getR rfl lk_7_10 (Nat.zero_le _) sh_0 rfl ?_
  refine ra_load rfl rfl rfl rfl ?_
  refine ra_cPp (sp_3 isD_1 hx0) rfl (ct_3 rfl lk_7_440 (Or.inl rfl) (sh_D isD_1) (Nat.le_of_ble_eq_true rfl)) ?_ (fun j2 hj2 => ?_)
  · refine ra_store (L' := [_, _, _]) rfl rfl rfl (Nat.le_of_ble_eq_true rfl) rfl ?_
    refine ra_load rfl rfl rfl rfl ?_
    refine ra_nnullF rfl rfl ?_
    exact ra_throw (E := "java/util/NoSuchElementException") rfl lk_7_442 (by decide +kernel) (fun _ => rfl) ⟨Or.inr ⟨_, by simp, rfl⟩, rfl⟩
  · refine ra_store (L' := [_, _, _]) rfl rfl rfl (Nat.le_of_ble_eq_true rfl) rfl ?_
    refine ra_load rfl rfl rfl rfl ?_
    refine ra_nnullT rfl rfl ?_
    refine ra_load rfl rfl rfl rfl ?_
    exact ra_areturn rfl rfl ⟨Or.inl (⟨_, hj2, rfl⟩), rfl⟩
theorem sp_177 {n : Nat} {f : Nat → Int32} {d : Nat} {x0 : Int} {σ : ra_V} (hx0 : ra_in x0) : ra_C (g_Gs n f) g_sh 0 (d + 6) 177 [.index (0), ra_I x0] σ (fun r s => rX ["java/lang/IndexOutOfBoundsException"] rV r ∧ s = σ) := by
  refine ra_enter (nn := 0) mt_177 rfl (Nat.le_of_ble_eq_true rfl) rfl (fun _ => by omega) ?_
  refine ra_load rfl rfl rfl rfl ?_
  refine ra_iflt rfl rfl hx0 (fun h1 => ?_) (fun h1 => ?_)
  · exact ra_throw (E := "java/lang/IndexOutOfBoundsException") rfl lk_7_172 (by decide +kernel) (fun _ => rfl) ⟨Or.inr ⟨_, by simp, rfl⟩, rfl⟩
  · refine ra_load rfl rfl rfl rfl ?_
    refine ra_load rfl rfl rfl rfl ?_
    refine ra_getR rfl lk_7_10 (Nat.zero_le _) sh_0 rfl ?_
    refine ra_getI rfl lk_7_93 (Nat.zero_le _) (sh_D isD_1) rfl ?_
    refine ra_gen (fun z2 hz2 => ?_)
    refine ra_iclt rfl rfl hx0 hz2 (fun h3 => ?_) (fun h3 => ?_)
    · exact ra_return rfl rfl ⟨Or.inl rfl, rfl⟩
    · exact ra_throw (E := "java/lang/IndexOutOfBoundsException") rfl lk_7_172 (by decide +kernel) (fun _ => rfl) ⟨Or.inr ⟨_, by simp, rfl⟩, rfl⟩
theorem sp_178 {n : Nat} {f : Nat → Int32} {d : Nat} {x0 : Int} {x1 : Int} {x2 : Int} {σ : ra_V} (hx0 : ra_in x0) (hx1 : ra_in x1) (hx2 : ra_in x2) : ra_C (g_Gs n f) g_sh 0 (d + 6) 178 [.index (0), ra_I x0, ra_I x1, ra_I x2] σ (fun r s => rX ["java/lang/IllegalArgumentException"] rV r ∧ s = σ) := by
  refine ra_enter (nn := 0) mt_178 rfl (Nat.le_of_ble_eq_true rfl) rfl (fun _ => by omega) ?_
  refine ra_load rfl rfl rfl rfl ?_
  refine ra_iflt rfl rfl hx0 (fun h1 => ?_) (fun h1 => ?_)
  · exact ra_throw (E := "java/lang/IllegalArgumentException") rfl lk_7_128 (by decide +kernel) (fun _ => rfl) ⟨Or.inr ⟨_, by simp, rfl⟩, rfl⟩
  · refine ra_load rfl rfl rfl rfl ?_
    refine ra_bipush rfl (by decide) ?_
    refine ra_icle rfl rfl hx0 (by first | omega | (unfold ra_in at *; omega)) (fun h2 => ?_) (fun h2 => ?_)
    · refine ra_load rfl rfl rfl rfl ?_
      refine ra_iconst rfl ?_
      refine ra_iclt rfl rfl hx1 (by first | omega | (unfold ra_in at *; omega)) (fun h3 => ?_) (fun h3 => ?_)
      · exact ra_throw (E := "java/lang/IllegalArgumentException") rfl lk_7_128 (by decide +kernel) (fun _ => rfl) ⟨Or.inr ⟨_, by simp, rfl⟩, rfl⟩
      · refine ra_load rfl rfl rfl rfl ?_
        refine ra_load rfl rfl rfl rfl ?_
        refine ra_icle rfl rfl hx1 hx2 (fun h4 => ?_) (fun h4 => ?_)
        · exact ra_return rfl rfl ⟨Or.inl rfl, rfl⟩
        · exact ra_throw (E := "java/lang/IllegalArgumentException") rfl lk_7_128 (by decide +kernel) (fun _ => rfl) ⟨Or.inr ⟨_, by simp, rfl⟩, rfl⟩
    · exact ra_throw (E := "java/lang/IllegalArgumentException") rfl lk_7_128 (by decide +kernel) (fun _ => rfl) ⟨Or.inr ⟨_, by simp, rfl⟩, rfl⟩
theorem sp_179 {n : Nat} {f : Nat → Int32} {d : Nat} {x0 : Int} {σ : ra_V} (hx0 : ra_in x0) : ra_C (g_Gs n f) g_sh 0 (d + 6) 179 [.index (0), ra_I x0] σ (fun r s => rX ["java/lang/IllegalArgumentException"] rV r ∧ s = σ) := by
  refine ra_enter (nn := 0) mt_179 rfl (Nat.le_of_ble_eq_true rfl) rfl (fun _ => by omega) ?_
  refine ra_load rfl rfl rfl rfl ?_
  refine ra_iflt rfl rfl hx0 (fun h1 => ?_) (fun h1 => ?_)
  · exact ra_throw (E := "java/lang/IllegalArgumentException") rfl lk_7_128 (by decide +kernel) (fun _ => rfl) ⟨Or.inr ⟨_, by simp, rfl⟩, rfl⟩
  · refine ra_load rfl rfl rfl rfl ?_
    refine ra_iconst rfl ?_
    refine ra_icle rfl rfl hx0 (by first | omega | (unfold ra_in at *; omega)) (fun h2 => ?_) (fun h2 => ?_)
    · exact ra_return rfl rfl ⟨Or.inl rfl, rfl⟩
    · exact ra_throw (E := "java/lang/IllegalArgumentException") rfl lk_7_128 (by decide +kernel) (fun _ => rfl) ⟨Or.inr ⟨_, by simp, rfl⟩, rfl⟩
theorem sp_180 {n : Nat} {f : Nat → Int32} {d : Nat}  {σ : ra_V}  : ra_C (g_Gs n f) g_sh 0 (d + 6) 180 [.index (0)] σ (fun r s => rX ["java/lang/IllegalStateException"] rV r ∧ s = σ) := by
  refine ra_enter (nn := 0) mt_180 rfl (Nat.le_of_ble_eq_true rfl) rfl (fun _ => by omega) ?_
  refine ra_load rfl rfl rfl rfl ?_
  refine ra_getR rfl lk_7_10 (Nat.zero_le _) sh_0 rfl ?_
  refine ra_cIp (sp_4 isD_1) rfl (ct_4 rfl lk_7_83 (Or.inl rfl) (sh_D isD_1) (Nat.le_of_ble_eq_true rfl)) (fun z2 hz2 => ?_)
  refine ra_bipush rfl (by decide) ?_
  refine ra_iclt rfl rfl hz2 (by first | omega | (unfold ra_in at *; omega)) (fun h3 => ?_) (fun h3 => ?_)
  · exact ra_return rfl rfl ⟨Or.inl rfl, rfl⟩
  · exact ra_throw (E := "java/lang/IllegalStateException") rfl lk_7_267 (by decide +kernel) (fun _ => rfl) ⟨Or.inr ⟨_, by simp, rfl⟩, rfl⟩
theorem sp_181 {n : Nat} {f : Nat → Int32} {d : Nat} {i0 : Nat} {σ : ra_V} (hi0 : i0 < 8) : ra_C (g_Gs n f) g_sh 0 (d + 6) 181 [.index (0), .index (1 + 5 + i0)] σ (fun r s => rX ["java/lang/IllegalStateException"] rV r ∧ s = σ) := by
  refine ra_enter (nn := 0) mt_181 rfl (Nat.le_of_ble_eq_true rfl) rfl (fun _ => by omega) ?_
  refine ra_load rfl rfl rfl rfl ?_
  refine ra_getR rfl lk_7_10 (Nat.zero_le _) sh_0 rfl ?_
  refine ra_load rfl rfl rfl rfl ?_
  refine ra_cBp (sp_8 isD_1 hi0) rfl (ct_8 rfl lk_7_207 (Or.inl rfl) (sh_D isD_1) (Nat.le_of_ble_eq_true rfl)) (fun z2 hz2 => ?_)
  refine ra_ifne rfl rfl (ra_in01 hz2) (fun h3 => ?_) (fun h3 => ?_)
  · exact ra_return rfl rfl ⟨Or.inl rfl, rfl⟩
  · exact ra_throw (E := "java/lang/IllegalStateException") rfl lk_7_267 (by decide +kernel) (fun _ => rfl) ⟨Or.inr ⟨_, by simp, rfl⟩, rfl⟩
theorem sp_182 {n : Nat} {f : Nat → Int32} {d : Nat} {i0 : Nat} {x1 : Int} {σ : ra_V} (hi0 : i0 < 8) (hx1 : ra_in x1) : ra_C (g_Gs n f) g_sh 0 (d + 6) 182 [.index (0), .index (1 + 5 + i0), ra_I x1] σ (fun r s => rX ["java/lang/IllegalStateException"] rV r ∧ s = σ) := by
  refine ra_enter (nn := 0) mt_182 rfl (Nat.le_of_ble_eq_true rfl) rfl (fun _ => by omega) ?_
  refine ra_load rfl rfl rfl rfl ?_
  refine ra_getR rfl lk_7_10 (Nat.zero_le _) sh_0 rfl ?_
  refine ra_load rfl rfl rfl rfl ?_
  refine ra_load rfl rfl rfl rfl ?_
  refine ra_cIp (sp_17 isD_1 hi0 hx1) rfl (ct_17 rfl lk_7_276 (Or.inl rfl) (sh_D isD_1) (Nat.le_of_ble_eq_true rfl)) (fun z2 hz2 => ?_)
  refine ra_ifeq rfl rfl hz2 (fun h3 => ?_) (fun h3 => ?_)
  · exact ra_return rfl rfl ⟨Or.inl rfl, rfl⟩
  · exact ra_throw (E := "java/lang/IllegalStateException") rfl lk_7_267 (by decide +kernel) (fun _ => rfl) ⟨Or.inr ⟨_, by simp, rfl⟩, rfl⟩
theorem sp_183 {n : Nat} {f : Nat → Int32} {d : Nat}  {σ : ra_V}  : ra_C (g_Gs n f) g_sh 0 (d + 6) 183 [.index (0)] σ (fun r s => rX ["java/lang/IllegalStateException"] rV r ∧ s = σ) := by
  refine ra_enter (nn := 0) mt_183 rfl (Nat.le_of_ble_eq_true rfl) rfl (fun _ => by omega) ?_
  refine ra_load rfl rfl rfl rfl ?_
  refine ra_getR rfl lk_7_10 (Nat.zero_le _) sh_0 rfl ?_
  refine ra_getR rfl lk_7_331 (Nat.zero_le _) (sh_D isD_1) rfl ?_
  refine ra_cBp (sp_67 isD_1) rfl (ct_67 rfl lk_7_359 (Or.inl rfl) (sh_D3 isD_1) (Nat.le_of_ble_eq_true rfl)) (fun z2 hz2 => ?_)
  refine ra_ifne rfl rfl (ra_in01 hz2) (fun h3 => ?_) (fun h3 => ?_)
  · exact ra_return rfl rfl ⟨Or.inl rfl, rfl⟩
  · exact ra_throw (E := "java/lang/IllegalStateException") rfl lk_7_267 (by decide +kernel) (fun _ => rfl) ⟨Or.inr ⟨_, by simp, rfl⟩, rfl⟩
theorem sp_184 {n : Nat} {f : Nat → Int32} {d : Nat}  {σ : ra_V}  : ra_C (g_Gs n f) g_sh 0 (d + 6) 184 [.index (0)] σ (fun r s => rX ["java/lang/IllegalStateException"] rV r ∧ s = σ) := by
  refine ra_enter (nn := 0) mt_184 rfl (Nat.le_of_ble_eq_true rfl) rfl (fun _ => by omega) ?_
  refine ra_load rfl rfl rfl rfl ?_
  refine ra_getR rfl lk_7_10 (Nat.zero_le _) sh_0 rfl ?_
  refine ra_getR rfl lk_7_331 (Nat.zero_le _) (sh_D isD_1) rfl ?_
  refine ra_cBp (sp_67 isD_1) rfl (ct_67 rfl lk_7_359 (Or.inl rfl) (sh_D3 isD_1) (Nat.le_of_ble_eq_true rfl)) (fun z2 hz2 => ?_)
  refine ra_ifeq rfl rfl (ra_in01 hz2) (fun h3 => ?_) (fun h3 => ?_)
  · exact ra_return rfl rfl ⟨Or.inl rfl, rfl⟩
  · exact ra_throw (E := "java/lang/IllegalStateException") rfl lk_7_267 (by decide +kernel) (fun _ => rfl) ⟨Or.inr ⟨_, by simp, rfl⟩, rfl⟩
theorem sp_117 {n : Nat} {f : Nat → Int32} {d : Nat}  {σ : ra_V}  : ra_C (g_Gs n f) g_sh 0 (d + 1) 117 [.index (0)] σ (fun r s => rI r ∧ s = σ) := by
  refine ra_enter (nn := 0) mt_117 rfl (Nat.le_of_ble_eq_true rfl) rfl (fun h => absurd h (by decide +kernel)) ?_
  refine ra_load rfl rfl rfl rfl ?_
  refine ra_getR rfl lk_7_39 (Nat.zero_le _) sh_0 rfl ?_
  refine ra_getI rfl lk_7_87 (Nat.zero_le _) sh_175 rfl ?_
  refine ra_gen (fun z1 hz1 => ?_)
  exact ra_ireturn rfl rfl ⟨⟨_, hz1, rfl⟩, rfl⟩
theorem sp_118 {n : Nat} {f : Nat → Int32} {d : Nat}  {σ : ra_V}  : ra_C (g_Gs n f) g_sh 0 (d + 1) 118 [.index (0)] σ (fun r s => rI r ∧ s = σ) := by
  refine ra_enter (nn := 0) mt_118 rfl (Nat.le_of_ble_eq_true rfl) rfl (fun h => absurd h (by decide +kernel)) ?_
  refine ra_load rfl rfl rfl rfl ?_
  refine ra_getR rfl lk_7_39 (Nat.zero_le _) sh_0 rfl ?_
  refine ra_getI rfl lk_7_90 (Nat.zero_le _) sh_175 rfl ?_
  refine ra_gen (fun z1 hz1 => ?_)
  exact ra_ireturn rfl rfl ⟨⟨_, hz1, rfl⟩, rfl⟩
theorem sp_119 {n : Nat} {f : Nat → Int32} {d : Nat} {x0 : Int} {σ : ra_V} (hx0 : ra_in x0) : ra_C (g_Gs n f) g_sh 0 (d + 7) 119 [.index (0), ra_I x0] σ (fun r s => rX ["java/lang/IllegalArgumentException"] rI r ∧ Fr (172) (175) σ s) := by
  refine ra_enter (nn := 0) mt_119 rfl (Nat.le_of_ble_eq_true rfl) rfl (fun _ => by omega) ?_
  refine ra_load rfl rfl rfl rfl ?_
  by_cases h1 : x0 = 0
  · refine ra_switch (t := 64) rfl hx0 ⟨by decide, by decide, by decide⟩ (Or.inl ⟨(0, 63), by rw [h1]; rfl, rfl⟩) ?_
    refine ra_load rfl rfl rfl rfl ?_
    refine ra_getR rfl lk_7_10 (Nat.zero_le _) sh_0 rfl ?_
    refine ra_getI rfl lk_7_93 (Nat.zero_le _) (sh_D isD_1) rfl ?_
    refine ra_gen (fun z2 hz2 => ?_)
    exact ra_ireturn rfl rfl ⟨Or.inl (⟨_, hz2, rfl⟩), Fr_rf⟩
  by_cases h3 : x0 = 1
  · refine ra_switch (t := 72) rfl hx0 ⟨by decide, by decide, by decide⟩ (Or.inl ⟨(1, 71), by rw [h3]; rfl, rfl⟩) ?_
    refine ra_load rfl rfl rfl rfl ?_
    refine ra_getR rfl lk_7_10 (Nat.zero_le _) sh_0 rfl ?_
    refine ra_getI rfl lk_7_94 (Nat.zero_le _) (sh_D isD_1) rfl ?_
    refine ra_gen (fun z4 hz4 => ?_)
    exact ra_ireturn rfl rfl ⟨Or.inl (⟨_, hz4, rfl⟩), Fr_rf⟩
  by_cases h5 : x0 = 2
  · refine ra_switch (t := 80) rfl hx0 ⟨by decide, by decide, by decide⟩ (Or.inl ⟨(2, 79), by rw [h5]; rfl, rfl⟩) ?_
    refine ra_load rfl rfl rfl rfl ?_
    refine ra_getR rfl lk_7_10 (Nat.zero_le _) sh_0 rfl ?_
    refine ra_getI rfl lk_7_97 (Nat.zero_le _) (sh_D isD_1) rfl ?_
    refine ra_gen (fun z6 hz6 => ?_)
    exact ra_ireturn rfl rfl ⟨Or.inl (⟨_, hz6, rfl⟩), Fr_rf⟩
  by_cases h7 : x0 = 3
  · refine ra_switch (t := 88) rfl hx0 ⟨by decide, by decide, by decide⟩ (Or.inl ⟨(3, 87), by rw [h7]; rfl, rfl⟩) ?_
    refine ra_load rfl rfl rfl rfl ?_
    refine ra_getR rfl lk_7_10 (Nat.zero_le _) sh_0 rfl ?_
    refine ra_getI rfl lk_7_100 (Nat.zero_le _) (sh_D isD_1) rfl ?_
    refine ra_gen (fun z8 hz8 => ?_)
    exact ra_ireturn rfl rfl ⟨Or.inl (⟨_, hz8, rfl⟩), Fr_rf⟩
  by_cases h9 : x0 = 4
  · refine ra_switch (t := 96) rfl hx0 ⟨by decide, by decide, by decide⟩ (Or.inl ⟨(4, 95), by rw [h9]; rfl, rfl⟩) ?_
    refine ra_load rfl rfl rfl rfl ?_
    refine ra_getR rfl lk_7_10 (Nat.zero_le _) sh_0 rfl ?_
    refine ra_getI rfl lk_7_103 (Nat.zero_le _) (sh_D isD_1) rfl ?_
    refine ra_gen (fun z10 hz10 => ?_)
    exact ra_ireturn rfl rfl ⟨Or.inl (⟨_, hz10, rfl⟩), Fr_rf⟩
  by_cases h11 : x0 = 5
  · refine ra_switch (t := 104) rfl hx0 ⟨by decide, by decide, by decide⟩ (Or.inl ⟨(5, 103), by rw [h11]; rfl, rfl⟩) ?_
    refine ra_load rfl rfl rfl rfl ?_
    refine ra_getR rfl lk_7_10 (Nat.zero_le _) sh_0 rfl ?_
    refine ra_cIp (sp_4 isD_1) rfl (ct_4 rfl lk_7_83 (Or.inl rfl) (sh_D isD_1) (Nat.le_of_ble_eq_true rfl)) (fun z13 hz13 => ?_)
    exact ra_ireturn rfl rfl ⟨Or.inl (⟨_, hz13, rfl⟩), Fr_rf⟩
  by_cases h14 : x0 = 6
  · refine ra_switch (t := 112) rfl hx0 ⟨by decide, by decide, by decide⟩ (Or.inl ⟨(6, 111), by rw [h14]; rfl, rfl⟩) ?_
    refine ra_load rfl rfl rfl rfl ?_
    refine ra_cR (sp_175 ) rfl (ct_175 rfl lk_7_106 (Or.inl rfl) sh_0 (Nat.le_of_ble_eq_true rfl)) (fun s15 hs15 => ?_)
    have hF16 := Fr_tr (lo := 172) (hi := 175) Fr_rf hs15 (by omega)
    refine ra_cIp (sp_54 ) rfl (ct_54 rfl lk_7_110 (Or.inl rfl) sh_172 (Nat.le_of_ble_eq_true rfl)) (fun z18 hz18 => ?_)
    exact ra_ireturn rfl rfl ⟨Or.inl (⟨_, hz18, rfl⟩), hF16⟩
  by_cases h19 : x0 = 7
  · refine ra_switch (t := 120) rfl hx0 ⟨by decide, by decide, by decide⟩ (Or.inl ⟨(7, 119), by rw [h19]; rfl, rfl⟩) ?_
    refine ra_load rfl rfl rfl rfl ?_
    refine ra_cR (sp_175 ) rfl (ct_175 rfl lk_7_106 (Or.inl rfl) sh_0 (Nat.le_of_ble_eq_true rfl)) (fun s20 hs20 => ?_)
    have hF21 := Fr_tr (lo := 172) (hi := 175) Fr_rf hs20 (by omega)
    refine ra_getI rfl lk_7_113 (Nat.zero_le _) sh_172 rfl ?_
    refine ra_gen (fun z22 hz22 => ?_)
    exact ra_ireturn rfl rfl ⟨Or.inl (⟨_, hz22, rfl⟩), hF21⟩
  by_cases h23 : x0 = 8
  · refine ra_switch (t := 128) rfl hx0 ⟨by decide, by decide, by decide⟩ (Or.inl ⟨(8, 127), by rw [h23]; rfl, rfl⟩) ?_
    refine ra_load rfl rfl rfl rfl ?_
    refine ra_getR rfl lk_7_10 (Nat.zero_le _) sh_0 rfl ?_
    refine ra_getI rfl lk_7_116 (Nat.zero_le _) (sh_D isD_1) rfl ?_
    refine ra_gen (fun z24 hz24 => ?_)
    exact ra_ireturn rfl rfl ⟨Or.inl (⟨_, hz24, rfl⟩), Fr_rf⟩
  by_cases h25 : x0 = 9
  · refine ra_switch (t := 136) rfl hx0 ⟨by decide, by decide, by decide⟩ (Or.inl ⟨(9, 135), by rw [h25]; rfl, rfl⟩) ?_
    refine ra_load rfl rfl rfl rfl ?_
    refine ra_getR rfl lk_7_10 (Nat.zero_le _) sh_0 rfl ?_
    refine ra_getI rfl lk_7_119 (Nat.zero_le _) (sh_D isD_1) rfl ?_
    refine ra_gen (fun z26 hz26 => ?_)
    exact ra_ireturn rfl rfl ⟨Or.inl (⟨_, hz26, rfl⟩), Fr_rf⟩
  by_cases h27 : x0 = 10
  · refine ra_switch (t := 144) rfl hx0 ⟨by decide, by decide, by decide⟩ (Or.inl ⟨(10, 143), by rw [h27]; rfl, rfl⟩) ?_
    refine ra_load rfl rfl rfl rfl ?_
    refine ra_getR rfl lk_7_10 (Nat.zero_le _) sh_0 rfl ?_
    refine ra_getI rfl lk_7_122 (Nat.zero_le _) (sh_D isD_1) rfl ?_
    refine ra_gen (fun z28 hz28 => ?_)
    exact ra_ireturn rfl rfl ⟨Or.inl (⟨_, hz28, rfl⟩), Fr_rf⟩
  by_cases h29 : x0 = 11
  · refine ra_switch (t := 152) rfl hx0 ⟨by decide, by decide, by decide⟩ (Or.inl ⟨(11, 151), by rw [h29]; rfl, rfl⟩) ?_
    refine ra_load rfl rfl rfl rfl ?_
    refine ra_getR rfl lk_7_25 (Nat.zero_le _) sh_0 rfl ?_
    refine ra_getI rfl lk_7_125 (Nat.zero_le _) sh_40 rfl ?_
    refine ra_gen (fun z30 hz30 => ?_)
    exact ra_ireturn rfl rfl ⟨Or.inl (⟨_, hz30, rfl⟩), Fr_rf⟩
  refine ra_switch (t := 160) rfl hx0 ⟨by decide, by decide, by decide⟩ (Or.inr ⟨ra_sw_none (by simp only [List.length]; omega), rfl⟩) ?_
  exact ra_throw (E := "java/lang/IllegalArgumentException") rfl lk_7_128 (by decide +kernel) (fun _ => rfl) ⟨Or.inr ⟨_, by simp, rfl⟩, Fr_rf⟩
theorem sp_120 {n : Nat} {f : Nat → Int32} {d : Nat} {x0 : Int} {x1 : Int} {σ : ra_V} (hx0 : ra_in x0) (hx1 : ra_in x1) : ra_C (g_Gs n f) g_sh 0 (d + 7) 120 [.index (0), ra_I x0, ra_I x1] σ (fun r s => rX ["java/lang/IllegalArgumentException", "java/util/NoSuchElementException"] rI r ∧ s = σ) := by
  refine ra_enter (nn := 1) mt_120 rfl (Nat.le_of_ble_eq_true rfl) rfl (fun _ => by omega) ?_
  refine ra_load rfl rfl rfl rfl ?_
  refine ra_iflt rfl rfl hx1 (fun h1 => ?_) (fun h1 => ?_)
  · exact ra_throw (E := "java/lang/IllegalArgumentException") rfl lk_7_128 (by decide +kernel) (fun _ => rfl) ⟨Or.inr ⟨_, by simp, rfl⟩, rfl⟩
  · refine ra_load rfl rfl rfl rfl ?_
    refine ra_bipush rfl (by decide) ?_
    refine ra_icle rfl rfl hx1 (by first | omega | (unfold ra_in at *; omega)) (fun h2 => ?_) (fun h2 => ?_)
    · refine ra_load rfl rfl rfl rfl ?_
      refine ra_load rfl rfl rfl rfl ?_
      refine ra_cXNp (sp_176 hx0) rfl (ct_176 rfl lk_7_135 (Or.inl rfl) sh_0 (Nat.le_of_ble_eq_true rfl)) rfl (fun j4 hj4 => ?_) (fun E hE => ⟨Or.inr ⟨E, (show ∀ E ∈ (["java/util/NoSuchElementException"] : List String), E ∈ (["java/lang/IllegalArgumentException", "java/util/NoSuchElementException"] : List String) by decide) E hE, rfl⟩, rfl⟩)
      refine ra_store (L' := [_, _, _, _]) rfl rfl rfl (Nat.le_of_ble_eq_true rfl) rfl ?_
      refine ra_load rfl rfl rfl rfl ?_
      by_cases h5 : x1 = 0
      · refine ra_switch (t := 64) rfl hx1 ⟨by decide, by decide, by decide⟩ (Or.inl ⟨(0, 37), by rw [h5]; rfl, rfl⟩) ?_
        refine ra_load rfl rfl rfl rfl ?_
        refine ra_getI rfl lk_7_139 (Nat.zero_le _) (sh_P isD_1 hj4) rfl ?_
        refine ra_gen (fun z6 hz6 => ?_)
        exact ra_ireturn rfl rfl ⟨Or.inl (⟨_, hz6, rfl⟩), rfl⟩
      by_cases h7 : x1 = 1
      · refine ra_switch (t := 69) rfl hx1 ⟨by decide, by decide, by decide⟩ (Or.inl ⟨(1, 42), by rw [h7]; rfl, rfl⟩) ?_
        refine ra_load rfl rfl rfl rfl ?_
        refine ra_getI rfl lk_7_144 (Nat.zero_le _) (sh_P isD_1 hj4) rfl ?_
        refine ra_gen (fun z8 hz8 => ?_)
        exact ra_ireturn rfl rfl ⟨Or.inl (⟨_, hz8, rfl⟩), rfl⟩
      by_cases h9 : x1 = 2
      · refine ra_switch (t := 74) rfl hx1 ⟨by decide, by decide, by decide⟩ (Or.inl ⟨(2, 47), by rw [h9]; rfl, rfl⟩) ?_
        refine ra_load rfl rfl rfl rfl ?_
        refine ra_getI rfl lk_7_147 (Nat.zero_le _) (sh_P isD_1 hj4) rfl ?_
        refine ra_gen (fun z10 hz10 => ?_)
        exact ra_ireturn rfl rfl ⟨Or.inl (⟨_, hz10, rfl⟩), rfl⟩
      by_cases h11 : x1 = 3
      · refine ra_switch (t := 79) rfl hx1 ⟨by decide, by decide, by decide⟩ (Or.inl ⟨(3, 52), by rw [h11]; rfl, rfl⟩) ?_
        refine ra_load rfl rfl rfl rfl ?_
        refine ra_getI rfl lk_7_150 (Nat.zero_le _) (sh_P isD_1 hj4) rfl ?_
        refine ra_gen (fun z12 hz12 => ?_)
        exact ra_ireturn rfl rfl ⟨Or.inl (⟨_, hz12, rfl⟩), rfl⟩
      by_cases h13 : x1 = 4
      · refine ra_switch (t := 84) rfl hx1 ⟨by decide, by decide, by decide⟩ (Or.inl ⟨(4, 57), by rw [h13]; rfl, rfl⟩) ?_
        refine ra_load rfl rfl rfl rfl ?_
        refine ra_getBw rfl lk_7_153 (Nat.zero_le _) (sh_P isD_1 hj4) rfl (fun z14 hz14 => ?_)
        refine ra_ifeq rfl rfl (ra_in01 hz14) (fun h15 => ?_) (fun h15 => ?_)
        · refine ra_iconst rfl ?_
          exact ra_ireturn rfl rfl ⟨Or.inl (⟨_, (by first | omega | (unfold ra_in at *; omega)), rfl⟩), rfl⟩
        · refine ra_iconst rfl ?_
          refine ra_goto rfl rfl ?_
          exact ra_ireturn rfl rfl ⟨Or.inl (⟨_, (by first | omega | (unfold ra_in at *; omega)), rfl⟩), rfl⟩
      by_cases h16 : x1 = 5
      · refine ra_switch (t := 97) rfl hx1 ⟨by decide, by decide, by decide⟩ (Or.inl ⟨(5, 70), by rw [h16]; rfl, rfl⟩) ?_
        refine ra_load rfl rfl rfl rfl ?_
        refine ra_getI rfl lk_7_156 (Nat.zero_le _) (sh_P isD_1 hj4) rfl ?_
        refine ra_gen (fun z17 hz17 => ?_)
        exact ra_ireturn rfl rfl ⟨Or.inl (⟨_, hz17, rfl⟩), rfl⟩
      refine ra_switch (t := 102) rfl hx1 ⟨by decide, by decide, by decide⟩ (Or.inr ⟨ra_sw_none (by simp only [List.length]; omega), rfl⟩) ?_
      refine ra_load rfl rfl rfl rfl ?_
      refine ra_getI rfl lk_7_159 (Nat.zero_le _) (sh_P isD_1 hj4) rfl ?_
      refine ra_gen (fun z18 hz18 => ?_)
      exact ra_ireturn rfl rfl ⟨Or.inl (⟨_, hz18, rfl⟩), rfl⟩
    · exact ra_throw (E := "java/lang/IllegalArgumentException") rfl lk_7_128 (by decide +kernel) (fun _ => rfl) ⟨Or.inr ⟨_, by simp, rfl⟩, rfl⟩
theorem sp_121 {n : Nat} {f : Nat → Int32} {d : Nat} {x0 : Int} {σ : ra_V} (hx0 : ra_in x0) : ra_C (g_Gs n f) g_sh 0 (d + 7) 121 [.index (0), ra_I x0] σ (fun r s => rX ["java/lang/IndexOutOfBoundsException"] rI r ∧ s = σ) := by
  refine ra_enter (nn := 0) mt_121 rfl (Nat.le_of_ble_eq_true rfl) rfl (fun h => absurd h (by decide +kernel)) ?_
  refine ra_load rfl rfl rfl rfl ?_
  refine ra_load rfl rfl rfl rfl ?_
  refine ra_cXVp (sp_177 hx0) rfl (ct_177 rfl lk_7_162 (Or.inl rfl) sh_0 (Nat.le_of_ble_eq_true rfl)) rfl ?_ (fun E hE => ⟨Or.inr ⟨E, (show ∀ E ∈ (["java/lang/IndexOutOfBoundsException"] : List String), E ∈ (["java/lang/IndexOutOfBoundsException"] : List String) by decide) E hE, rfl⟩, rfl⟩)
  refine ra_load rfl rfl rfl rfl ?_
  refine ra_getR rfl lk_7_10 (Nat.zero_le _) sh_0 rfl ?_
  refine ra_load rfl rfl rfl rfl ?_
  refine ra_cIp (sp_23 isD_1 hx0) rfl (ct_23 rfl lk_7_165 (Or.inl rfl) (sh_D isD_1) (Nat.le_of_ble_eq_true rfl)) (fun z3 hz3 => ?_)
  exact ra_ireturn rfl rfl ⟨Or.inl (⟨_, hz3, rfl⟩), rfl⟩
theorem sp_122 {n : Nat} {f : Nat → Int32} {d : Nat} {x0 : Int} {σ : ra_V} (hx0 : ra_in x0) : ra_C (g_Gs n f) g_sh 0 (d + 7) 122 [.index (0), ra_I x0] σ (fun r s => rX ["java/lang/IndexOutOfBoundsException"] rI r ∧ s = σ) := by
  refine ra_enter (nn := 0) mt_122 rfl (Nat.le_of_ble_eq_true rfl) rfl (fun h => absurd h (by decide +kernel)) ?_
  refine ra_load rfl rfl rfl rfl ?_
  refine ra_load rfl rfl rfl rfl ?_
  refine ra_cXVp (sp_177 hx0) rfl (ct_177 rfl lk_7_162 (Or.inl rfl) sh_0 (Nat.le_of_ble_eq_true rfl)) rfl ?_ (fun E hE => ⟨Or.inr ⟨E, (show ∀ E ∈ (["java/lang/IndexOutOfBoundsException"] : List String), E ∈ (["java/lang/IndexOutOfBoundsException"] : List String) by decide) E hE, rfl⟩, rfl⟩)
  refine ra_load rfl rfl rfl rfl ?_
  refine ra_getR rfl lk_7_10 (Nat.zero_le _) sh_0 rfl ?_
  refine ra_load rfl rfl rfl rfl ?_
  refine ra_cIp (sp_27 isD_1 hx0) rfl (ct_27 rfl lk_7_169 (Or.inl rfl) (sh_D isD_1) (Nat.le_of_ble_eq_true rfl)) (fun z3 hz3 => ?_)
  exact ra_ireturn rfl rfl ⟨Or.inl (⟨_, hz3, rfl⟩), rfl⟩
theorem sp_123 {n : Nat} {f : Nat → Int32} {d : Nat} {x0 : Int} {x1 : Int} {σ : ra_V} (hx0 : ra_in x0) (hx1 : ra_in x1) : ra_C (g_Gs n f) g_sh 0 (d + 7) 123 [.index (0), ra_I x0, ra_I x1] σ (fun r s => rX ["java/lang/IndexOutOfBoundsException", "java/util/NoSuchElementException"] rI r ∧ s = σ) := by
  refine ra_enter (nn := 1) mt_123 rfl (Nat.le_of_ble_eq_true rfl) rfl (fun _ => by omega) ?_
  refine ra_load rfl rfl rfl rfl ?_
  refine ra_load rfl rfl rfl rfl ?_
  refine ra_cXNp (sp_176 hx0) rfl (ct_176 rfl lk_7_135 (Or.inl rfl) sh_0 (Nat.le_of_ble_eq_true rfl)) rfl (fun j2 hj2 => ?_) (fun E hE => ⟨Or.inr ⟨E, (show ∀ E ∈ (["java/util/NoSuchElementException"] : List String), E ∈ (["java/lang/IndexOutOfBoundsException", "java/util/NoSuchElementException"] : List String) by decide) E hE, rfl⟩, rfl⟩)
  refine ra_store (L' := [_, _, _, _]) rfl rfl rfl (Nat.le_of_ble_eq_true rfl) rfl ?_
  refine ra_load rfl rfl rfl rfl ?_
  refine ra_iflt rfl rfl hx1 (fun h3 => ?_) (fun h3 => ?_)
  · exact ra_throw (E := "java/lang/IndexOutOfBoundsException") rfl lk_7_172 (by decide +kernel) (fun _ => rfl) ⟨Or.inr ⟨_, by simp, rfl⟩, rfl⟩
  · refine ra_load rfl rfl rfl rfl ?_
    refine ra_load rfl rfl rfl rfl ?_
    refine ra_getI rfl lk_7_144 (Nat.zero_le _) (sh_P isD_1 hj2) rfl ?_
    refine ra_gen (fun z4 hz4 => ?_)
    refine ra_iclt rfl rfl hx1 hz4 (fun h5 => ?_) (fun h5 => ?_)
    · refine ra_load rfl rfl rfl rfl ?_
      refine ra_getR rfl lk_7_10 (Nat.zero_le _) sh_0 rfl ?_
      refine ra_load rfl rfl rfl rfl ?_
      refine ra_load rfl rfl rfl rfl ?_
      refine ra_cIp (sp_26 isD_1 hj2 hx1) rfl (ct_26 rfl lk_7_177 (Or.inl rfl) (sh_D isD_1) (Nat.le_of_ble_eq_true rfl)) (fun z7 hz7 => ?_)
      exact ra_ireturn rfl rfl ⟨Or.inl (⟨_, hz7, rfl⟩), rfl⟩
    · exact ra_throw (E := "java/lang/IndexOutOfBoundsException") rfl lk_7_172 (by decide +kernel) (fun _ => rfl) ⟨Or.inr ⟨_, by simp, rfl⟩, rfl⟩
theorem sp_124 {n : Nat} {f : Nat → Int32} {d : Nat} {x0 : Int} {σ : ra_V} (hx0 : ra_in x0) : ra_C (g_Gs n f) g_sh 0 (d + 7) 124 [.index (0), ra_I x0] σ (fun r s => rX ["java/util/NoSuchElementException"] rB r ∧ s = σ) := by
  refine ra_enter (nn := 0) mt_124 rfl (Nat.le_of_ble_eq_true rfl) rfl (fun h => absurd h (by decide +kernel)) ?_
  refine ra_load rfl rfl rfl rfl ?_
  refine ra_getR rfl lk_7_10 (Nat.zero_le _) sh_0 rfl ?_
  refine ra_load rfl rfl rfl rfl ?_
  refine ra_load rfl rfl rfl rfl ?_
  refine ra_cXNp (sp_176 hx0) rfl (ct_176 rfl lk_7_135 (Or.inl rfl) sh_0 (Nat.le_of_ble_eq_true rfl)) rfl (fun j2 hj2 => ?_) (fun E hE => ⟨Or.inr ⟨E, (show ∀ E ∈ (["java/util/NoSuchElementException"] : List String), E ∈ (["java/util/NoSuchElementException"] : List String) by decide) E hE, rfl⟩, rfl⟩)
  refine ra_cBp (sp_30 isD_1 hj2) rfl (ct_30 rfl lk_7_181 (Or.inl rfl) (sh_D isD_1) (Nat.le_of_ble_eq_true rfl)) (fun z4 hz4 => ?_)
  exact ra_ireturn rfl (ra_okB hz4) ⟨Or.inl (⟨_, hz4, rfl⟩), rfl⟩
theorem lp_125_33 {n : Nat} {f : Nat → Int32} {d : Nat} {x0 : Int} {σ : ra_V} (hx0 : ra_in x0) : ∀ (nn : Nat) (t2 : Jvm.Term) (v3 : Int) (ht2 : t2 = .null ∨ ∃ i, i < 8 ∧ t2 = .index (1 + 5 + i)) (hv3_0 : 0 ≤ v3) (hv3_1 : ra_in v3) (hm : ((x0 - v3 : Int)).toNat < nn), ra_P (g_Gs n f) g_sh 0 (d + 5) g_m_X7_byStart 33 [some (.index (0)), some (ra_I x0), some (t2), some (ra_I v3)] [] σ (fun r s => rX ["java/lang/IndexOutOfBoundsException"] rI r ∧ s = σ) := by
  intro nn
  induction nn with
  | zero => intro t2 v3 ht2 hv3_0 hv3_1 hm; exact absurd hm (Nat.not_lt_zero _)
  | succ nn ih =>
    intro t2 v3 ht2 hv3_0 hv3_1 hm
    rcases ht2 with rfl | ⟨p2, hp2, rfl⟩
    · refine ra_load rfl rfl rfl rfl ?_
      refine ra_load rfl rfl rfl rfl ?_
      refine ra_icge rfl rfl (by first | omega | (unfold ra_in at *; omega)) hx0 (fun h5 => ?_) (fun h5 => ?_)
      · refine ra_load rfl rfl rfl rfl ?_
        refine ra_nnullF rfl rfl ?_
        refine ra_iconst rfl ?_
        refine ra_goto rfl rfl ?_
        exact ra_ireturn rfl rfl ⟨Or.inl (⟨_, (by first | omega | (unfold ra_in at *; omega)), rfl⟩), rfl⟩
      · refine ra_load rfl rfl rfl rfl ?_
        refine ra_nullT rfl rfl ?_
        refine ra_load rfl rfl rfl rfl ?_
        refine ra_nnullF rfl rfl ?_
        refine ra_iconst rfl ?_
        refine ra_goto rfl rfl ?_
        exact ra_ireturn rfl rfl ⟨Or.inl (⟨_, (by first | omega | (unfold ra_in at *; omega)), rfl⟩), rfl⟩
    · refine ra_load rfl rfl rfl rfl ?_
      refine ra_load rfl rfl rfl rfl ?_
      refine ra_icge rfl rfl (by first | omega | (unfold ra_in at *; omega)) hx0 (fun h6 => ?_) (fun h6 => ?_)
      · refine ra_load rfl rfl rfl rfl ?_
        refine ra_nnullT rfl rfl ?_
        refine ra_load rfl rfl rfl rfl ?_
        refine ra_getK rfl lk_7_190 (Nat.zero_le _) (sh_P isD_1 hp2) rfl ?_
        exact ra_ireturn rfl rfl ⟨Or.inl (⟨_, (by first | omega | (unfold ra_in at *; omega)), rfl⟩), rfl⟩
      · refine ra_load rfl rfl rfl rfl ?_
        refine ra_nullF rfl rfl ?_
        refine ra_load rfl rfl rfl rfl ?_
        refine ra_getR rfl lk_7_10 (Nat.zero_le _) sh_0 rfl ?_
        refine ra_load rfl rfl rfl rfl ?_
        refine ra_getI rfl lk_7_139 (Nat.zero_le _) (sh_P isD_1 hp2) rfl ?_
        refine ra_gen (fun z7 hz7 => ?_)
        refine ra_cPp (sp_6 isD_1 hz7) rfl (ct_6 rfl lk_7_187 (Or.inl rfl) (sh_D isD_1) (Nat.le_of_ble_eq_true rfl)) ?_ (fun j9 hj9 => ?_)
        · refine ra_store (L' := [_, _, _, _]) rfl rfl rfl (Nat.le_of_ble_eq_true rfl) rfl ?_
          refine ra_iinc (L' := [_, _, _, _]) rfl rfl (Nat.le_of_ble_eq_true rfl) rfl ?_
          refine ra_goto rfl rfl ?_
          exact ra_weak (by repeat' constructor) (ih _ (v3 + 1) (Or.inl rfl) (by first | omega | (unfold ra_in at *; omega)) (by first | omega | (unfold ra_in at *; omega)) (by first | omega | (unfold ra_in at *; omega)))
        · refine ra_store (L' := [_, _, _, _]) rfl rfl rfl (Nat.le_of_ble_eq_true rfl) rfl ?_
          refine ra_iinc (L' := [_, _, _, _]) rfl rfl (Nat.le_of_ble_eq_true rfl) rfl ?_
          refine ra_goto rfl rfl ?_
          exact ra_weak (by repeat' constructor) (ih _ (v3 + 1) (Or.inr ⟨_, hj9, rfl⟩) (by first | omega | (unfold ra_in at *; omega)) (by first | omega | (unfold ra_in at *; omega)) (by first | omega | (unfold ra_in at *; omega)))
theorem sp_125 {n : Nat} {f : Nat → Int32} {d : Nat} {x0 : Int} {σ : ra_V} (hx0 : ra_in x0) : ra_C (g_Gs n f) g_sh 0 (d + 6) 125 [.index (0), ra_I x0] σ (fun r s => rX ["java/lang/IndexOutOfBoundsException"] rI r ∧ s = σ) := by
  refine ra_enter (nn := 2) mt_125 rfl (Nat.le_of_ble_eq_true rfl) rfl (fun _ => by omega) ?_
  refine ra_load rfl rfl rfl rfl ?_
  refine ra_ifge rfl rfl hx0 (fun h1 => ?_) (fun h1 => ?_)
  · refine ra_load rfl rfl rfl rfl ?_
    refine ra_bipush rfl (by decide) ?_
    refine ra_iclt rfl rfl hx0 (by first | omega | (unfold ra_in at *; omega)) (fun h2 => ?_) (fun h2 => ?_)
    · refine ra_load rfl rfl rfl rfl ?_
      refine ra_getR rfl lk_7_10 (Nat.zero_le _) sh_0 rfl ?_
      refine ra_iconst rfl ?_
      refine ra_cPp (sp_6 isD_1 (by first | omega | (unfold ra_in at *; omega))) rfl (ct_6 rfl lk_7_187 (Or.inl rfl) (sh_D isD_1) (Nat.le_of_ble_eq_true rfl)) ?_ (fun j4 hj4 => ?_)
      · refine ra_store (L' := [_, _, _, _]) rfl rfl rfl (Nat.le_of_ble_eq_true rfl) rfl ?_
        refine ra_iconst rfl ?_
        refine ra_store (L' := [_, _, _, _]) rfl rfl rfl (Nat.le_of_ble_eq_true rfl) rfl ?_
        exact ra_weak (by repeat' constructor) (lp_125_33 hx0 _ _ (0) (Or.inl rfl) (by first | omega | (unfold ra_in at *; omega)) (by first | omega | (unfold ra_in at *; omega)) (Nat.lt_succ_self _))
      · refine ra_store (L' := [_, _, _, _]) rfl rfl rfl (Nat.le_of_ble_eq_true rfl) rfl ?_
        refine ra_iconst rfl ?_
        refine ra_store (L' := [_, _, _, _]) rfl rfl rfl (Nat.le_of_ble_eq_true rfl) rfl ?_
        exact ra_weak (by repeat' constructor) (lp_125_33 hx0 _ _ (0) (Or.inr ⟨_, hj4, rfl⟩) (by first | omega | (unfold ra_in at *; omega)) (by first | omega | (unfold ra_in at *; omega)) (Nat.lt_succ_self _))
    · refine ra_iconst rfl ?_
      exact ra_ireturn rfl rfl ⟨Or.inl (⟨_, (by first | omega | (unfold ra_in at *; omega)), rfl⟩), rfl⟩
  · exact ra_throw (E := "java/lang/IndexOutOfBoundsException") rfl lk_7_172 (by decide +kernel) (fun _ => rfl) ⟨Or.inr ⟨_, by simp, rfl⟩, rfl⟩
theorem sp_126 {n : Nat} {f : Nat → Int32} {d : Nat} {x0 : Int} {σ : ra_V} (hx0 : ra_in x0) : ra_C (g_Gs n f) g_sh 0 (d + 7) 126 [.index (0), ra_I x0] σ (fun r s => rX ["java/util/NoSuchElementException"] rI r ∧ s = σ) := by
  refine ra_enter (nn := 1) mt_126 rfl (Nat.le_of_ble_eq_true rfl) rfl (fun h => absurd h (by decide +kernel)) ?_
  refine ra_load rfl rfl rfl rfl ?_
  refine ra_getR rfl lk_7_10 (Nat.zero_le _) sh_0 rfl ?_
  refine ra_load rfl rfl rfl rfl ?_
  refine ra_load rfl rfl rfl rfl ?_
  refine ra_cXNp (sp_176 hx0) rfl (ct_176 rfl lk_7_135 (Or.inl rfl) sh_0 (Nat.le_of_ble_eq_true rfl)) rfl (fun j2 hj2 => ?_) (fun E hE => ⟨Or.inr ⟨E, (show ∀ E ∈ (["java/util/NoSuchElementException"] : List String), E ∈ (["java/util/NoSuchElementException"] : List String) by decide) E hE, rfl⟩, rfl⟩)
  refine ra_getI rfl lk_7_139 (Nat.zero_le _) (sh_P isD_1 hj2) rfl ?_
  refine ra_gen (fun z3 hz3 => ?_)
  refine ra_cPp (sp_6 isD_1 hz3) rfl (ct_6 rfl lk_7_187 (Or.inl rfl) (sh_D isD_1) (Nat.le_of_ble_eq_true rfl)) ?_ (fun j5 hj5 => ?_)
  · refine ra_store (L' := [_, _, _]) rfl rfl rfl (Nat.le_of_ble_eq_true rfl) rfl ?_
    refine ra_load rfl rfl rfl rfl ?_
    refine ra_nnullF rfl rfl ?_
    refine ra_iconst rfl ?_
    refine ra_goto rfl rfl ?_
    exact ra_ireturn rfl rfl ⟨Or.inl (⟨_, (by first | omega | (unfold ra_in at *; omega)), rfl⟩), rfl⟩
  · refine ra_store (L' := [_, _, _]) rfl rfl rfl (Nat.le_of_ble_eq_true rfl) rfl ?_
    refine ra_load rfl rfl rfl rfl ?_
    refine ra_nnullT rfl rfl ?_
    refine ra_load rfl rfl rfl rfl ?_
    refine ra_getK rfl lk_7_190 (Nat.zero_le _) (sh_P isD_1 hj5) rfl ?_
    exact ra_ireturn rfl rfl ⟨Or.inl (⟨_, (by first | omega | (unfold ra_in at *; omega)), rfl⟩), rfl⟩
theorem sp_127 {n : Nat} {f : Nat → Int32} {d : Nat} {x0 : Int} {x1 : Int} {σ : ra_V} (hx0 : ra_in x0) (hx1 : ra_in x1) : ra_C (g_Gs n f) g_sh 0 (d + 3) 127 [.index (0), ra_I x0, ra_I x1] σ (fun r s => rI r ∧ s = σ) := by
  refine ra_enter (nn := 0) mt_127 rfl (Nat.le_of_ble_eq_true rfl) rfl (fun h => absurd h (by decide +kernel)) ?_
  refine ra_load rfl rfl rfl rfl ?_
  refine ra_iconst rfl ?_
  refine ra_icge rfl rfl hx1 (by first | omega | (unfold ra_in at *; omega)) (fun h1 => ?_) (fun h1 => ?_)
  · refine ra_load rfl rfl rfl rfl ?_
    refine ra_getR rfl lk_7_10 (Nat.zero_le _) sh_0 rfl ?_
    refine ra_load rfl rfl rfl rfl ?_
    refine ra_i2l rfl hx0 ?_
    refine ra_load rfl rfl rfl rfl ?_
    refine ra_i2l rfl hx1 ?_
    refine ra_cIp (sp_12 isD_1 hx0 hx1) rfl (ct_12 rfl lk_7_193 (Or.inl rfl) (sh_D isD_1) (Nat.le_of_ble_eq_true rfl)) (fun z3 hz3 => ?_)
    exact ra_ireturn rfl rfl ⟨⟨_, hz3, rfl⟩, rfl⟩
  · refine ra_iconst rfl ?_
    refine ra_goto rfl rfl ?_
    exact ra_ireturn rfl rfl ⟨⟨_, (by first | omega | (unfold ra_in at *; omega)), rfl⟩, rfl⟩
theorem lp_129_16 {n : Nat} {f : Nat → Int32} {d : Nat}  {σ : ra_V}  : ∀ (nn : Nat) (v1 : Int) (v4 : Int) (hv1 : ra_in v1) (hv4_0 : 0 ≤ v4) (hv4_1 : v4 ≤ 8) (hm : ((8 - v4 : Int)).toNat < nn), ra_P (g_Gs n f) g_sh 0 (d + 2) g_m_X7_slack 16 [some (.index (0)), some (ra_I v1), some (.index (1 + 2)), some (ra_I ((8 : Nat) : Int)), some (ra_I v4), none] [] σ (fun r s => rI r ∧ s = σ) := by
  intro nn
  induction nn with
  | zero => intro v1 v4 hv1 hv4_0 hv4_1 hm; exact absurd hm (Nat.not_lt_zero _)
  | succ nn ih =>
    intro v1 v4 hv1 hv4_0 hv4_1 hm
    refine ra_load rfl rfl rfl rfl ?_
    refine ra_load rfl rfl rfl rfl ?_
    refine ra_icge rfl rfl (by first | omega | (unfold ra_in at *; omega)) (by first | omega | (unfold ra_in at *; omega)) (fun h1 => ?_) (fun h1 => ?_)
    · refine ra_load rfl rfl rfl rfl ?_
      exact ra_ireturn rfl rfl ⟨⟨_, hv1, rfl⟩, rfl⟩
    · refine ra_load rfl rfl rfl rfl ?_
      refine ra_load rfl rfl rfl rfl ?_
      refine ra_aaload rfl (sh_D2 isD_1) rfl (by decide) (by first | omega | (unfold ra_in at *; omega)) (by first | omega | (unfold ra_in at *; omega)) (sh_pt (by first | omega | (unfold ra_in at *; omega)) (by first | omega | (unfold ra_in at *; omega))) rfl ?_
      have hi2 : v4.toNat < 8 := (by first | omega | (unfold ra_in at *; omega))
      refine ra_store (L' := [_, _, _, _, _, _]) rfl rfl rfl (Nat.le_of_ble_eq_true rfl) rfl ?_
      refine ra_load rfl rfl rfl rfl ?_
      refine ra_getR rfl lk_7_10 (Nat.zero_le _) sh_0 rfl ?_
      refine ra_load rfl rfl rfl rfl ?_
      refine ra_cBp (sp_8 isD_1 hi2) rfl (ct_8 rfl lk_7_207 (Or.inl rfl) (sh_D isD_1) (Nat.le_of_ble_eq_true rfl)) (fun z4 hz4 => ?_)
      refine ra_ifeq rfl rfl (ra_in01 hz4) (fun h5 => ?_) (fun h5 => ?_)
      · refine ra_iinc (L' := [_, _, _, _, _, _]) rfl rfl (Nat.le_of_ble_eq_true rfl) rfl ?_
        refine ra_goto rfl rfl ?_
        exact ra_weak (by repeat' constructor) (ih v1 (v4 + 1) hv1 (by first | omega | (unfold ra_in at *; omega)) (by first | omega | (unfold ra_in at *; omega)) (by first | omega | (unfold ra_in at *; omega)))
      · refine ra_load rfl rfl rfl rfl ?_
        refine ra_load rfl rfl rfl rfl ?_
        refine ra_getI rfl lk_7_144 (Nat.zero_le _) (sh_P isD_1 hi2) rfl ?_
        refine ra_gen (fun z6 hz6 => ?_)
        refine ra_load rfl rfl rfl rfl ?_
        refine ra_getI rfl lk_7_147 (Nat.zero_le _) (sh_P isD_1 hi2) rfl ?_
        refine ra_gen (fun z7 hz7 => ?_)
        refine ra_isub rfl ?_
        refine ra_gen (fun z8 hz8 => ?_)
        refine ra_iadd rfl ?_
        refine ra_gen (fun z9 hz9 => ?_)
        refine ra_store (L' := [_, _, _, _, _, _]) rfl rfl rfl (Nat.le_of_ble_eq_true rfl) rfl ?_
        refine ra_iinc (L' := [_, _, _, _, _, _]) rfl rfl (Nat.le_of_ble_eq_true rfl) rfl ?_
        refine ra_goto rfl rfl ?_
        exact ra_weak (by repeat' constructor) (ih z9 (v4 + 1) hz9 (by first | omega | (unfold ra_in at *; omega)) (by first | omega | (unfold ra_in at *; omega)) (by first | omega | (unfold ra_in at *; omega)))
theorem sp_129 {n : Nat} {f : Nat → Int32} {d : Nat}  {σ : ra_V}  : ra_C (g_Gs n f) g_sh 0 (d + 3) 129 [.index (0)] σ (fun r s => rI r ∧ s = σ) := by
  refine ra_enter (nn := 5) mt_129 rfl (Nat.le_of_ble_eq_true rfl) rfl (fun h => absurd h (by decide +kernel)) ?_
  refine ra_iconst rfl ?_
  refine ra_store (L' := [_, _, _, _, _, _]) rfl rfl rfl (Nat.le_of_ble_eq_true rfl) rfl ?_
  refine ra_load rfl rfl rfl rfl ?_
  refine ra_getR rfl lk_7_10 (Nat.zero_le _) sh_0 rfl ?_
  refine ra_getR rfl lk_7_203 (Nat.zero_le _) (sh_D isD_1) rfl ?_
  refine ra_store (L' := [_, _, _, _, _, _]) rfl rfl rfl (Nat.le_of_ble_eq_true rfl) rfl ?_
  refine ra_load rfl rfl rfl rfl ?_
  refine ra_alen rfl (sh_D2 isD_1) rfl ?_
  refine ra_store (L' := [_, _, _, _, _, _]) rfl rfl rfl (Nat.le_of_ble_eq_true rfl) rfl ?_
  refine ra_iconst rfl ?_
  refine ra_store (L' := [_, _, _, _, _, _]) rfl rfl rfl (Nat.le_of_ble_eq_true rfl) rfl ?_
  exact ra_weak (by repeat' constructor) (lp_129_16  _ (0) (0) (by first | omega | (unfold ra_in at *; omega)) (by first | omega | (unfold ra_in at *; omega)) (by first | omega | (unfold ra_in at *; omega)) (Nat.lt_succ_self _))
theorem lp_130_37 {n : Nat} {f : Nat → Int32} {d : Nat} {x0 : Int} {σ : ra_V} (hx0 : ra_in x0) : ∀ (nn : Nat) (v2 : Int) (v5 : Int) (hv2 : ra_in v2) (hv5_0 : 0 ≤ v5) (hv5_1 : v5 ≤ 8) (hm : ((8 - v5 : Int)).toNat < nn), ra_P (g_Gs n f) g_sh 0 (d + 5) g_m_X7_ofKind 37 [none, some (ra_I x0), some (ra_I v2), some (.index (1 + 2)), some (ra_I ((8 : Nat) : Int)), some (ra_I v5), none] [] σ (fun r s => rX ["java/lang/IllegalArgumentException"] rI r ∧ s = σ) := by
  intro nn
  induction nn with
  | zero => intro v2 v5 hv2 hv5_0 hv5_1 hm; exact absurd hm (Nat.not_lt_zero _)
  | succ nn ih =>
    intro v2 v5 hv2 hv5_0 hv5_1 hm
    refine ra_load rfl rfl rfl rfl ?_
    refine ra_load rfl rfl rfl rfl ?_
    refine ra_icge rfl rfl (by first | omega | (unfold ra_in at *; omega)) (by first | omega | (unfold ra_in at *; omega)) (fun h3 => ?_) (fun h3 => ?_)
    · refine ra_load rfl rfl rfl rfl ?_
      exact ra_ireturn rfl rfl ⟨Or.inl (⟨_, hv2, rfl⟩), rfl⟩
    · refine ra_load rfl rfl rfl rfl ?_
      refine ra_load rfl rfl rfl rfl ?_
      refine ra_aaload rfl (sh_D2 isD_1) rfl (by decide) (by first | omega | (unfold ra_in at *; omega)) (by first | omega | (unfold ra_in at *; omega)) (sh_pt (by first | omega | (unfold ra_in at *; omega)) (by first | omega | (unfold ra_in at *; omega))) rfl ?_
      have hi4 : v5.toNat < 8 := (by first | omega | (unfold ra_in at *; omega))
      refine ra_store (L' := [_, _, _, _, _, _, _]) rfl rfl rfl (Nat.le_of_ble_eq_true rfl) rfl ?_
      refine ra_load rfl rfl rfl rfl ?_
      refine ra_cBp (sp_92 isD_1 hi4) rfl (ct_92 rfl lk_7_212 (Or.inl rfl) (sh_P isD_1 hi4) (Nat.le_of_ble_eq_true rfl)) (fun z6 hz6 => ?_)
      refine ra_ifeq rfl rfl (ra_in01 hz6) (fun h7 => ?_) (fun h7 => ?_)
      · refine ra_iinc (L' := [_, _, _, _, _, _, _]) rfl rfl (Nat.le_of_ble_eq_true rfl) rfl ?_
        refine ra_goto rfl rfl ?_
        exact ra_weak (by repeat' constructor) (ih v2 (v5 + 1) hv2 (by first | omega | (unfold ra_in at *; omega)) (by first | omega | (unfold ra_in at *; omega)) (by first | omega | (unfold ra_in at *; omega)))
      · refine ra_load rfl rfl rfl rfl ?_
        refine ra_getI rfl lk_7_150 (Nat.zero_le _) (sh_P isD_1 hi4) rfl ?_
        refine ra_gen (fun z8 hz8 => ?_)
        refine ra_load rfl rfl rfl rfl ?_
        refine ra_icne rfl rfl hz8 hx0 (fun h9 => ?_) (fun h9 => ?_)
        · refine ra_iinc (L' := [_, _, _, _, _, _, _]) rfl rfl (Nat.le_of_ble_eq_true rfl) rfl ?_
          refine ra_goto rfl rfl ?_
          exact ra_weak (by repeat' constructor) (ih v2 (v5 + 1) hv2 (by first | omega | (unfold ra_in at *; omega)) (by first | omega | (unfold ra_in at *; omega)) (by first | omega | (unfold ra_in at *; omega)))
        · refine ra_load rfl rfl rfl rfl ?_
          refine ra_load rfl rfl rfl rfl ?_
          refine ra_getI rfl lk_7_144 (Nat.zero_le _) (sh_P isD_1 hi4) rfl ?_
          refine ra_gen (fun z10 hz10 => ?_)
          refine ra_iadd rfl ?_
          refine ra_gen (fun z11 hz11 => ?_)
          refine ra_store (L' := [_, _, _, _, _, _, _]) rfl rfl rfl (Nat.le_of_ble_eq_true rfl) rfl ?_
          refine ra_iinc (L' := [_, _, _, _, _, _, _]) rfl rfl (Nat.le_of_ble_eq_true rfl) rfl ?_
          refine ra_goto rfl rfl ?_
          exact ra_weak (by repeat' constructor) (ih z11 (v5 + 1) hz11 (by first | omega | (unfold ra_in at *; omega)) (by first | omega | (unfold ra_in at *; omega)) (by first | omega | (unfold ra_in at *; omega)))
theorem sp_130 {n : Nat} {f : Nat → Int32} {d : Nat} {x0 : Int} {σ : ra_V} (hx0 : ra_in x0) : ra_C (g_Gs n f) g_sh 0 (d + 6) 130 [.index (0), ra_I x0] σ (fun r s => rX ["java/lang/IllegalArgumentException"] rI r ∧ s = σ) := by
  refine ra_enter (nn := 5) mt_130 rfl (Nat.le_of_ble_eq_true rfl) rfl (fun _ => by omega) ?_
  refine ra_load rfl rfl rfl rfl ?_
  refine ra_iflt rfl rfl hx0 (fun h1 => ?_) (fun h1 => ?_)
  · exact ra_throw (E := "java/lang/IllegalArgumentException") rfl lk_7_128 (by decide +kernel) (fun _ => rfl) ⟨Or.inr ⟨_, by simp, rfl⟩, rfl⟩
  · refine ra_load rfl rfl rfl rfl ?_
    refine ra_bipush rfl (by decide) ?_
    refine ra_icle rfl rfl hx0 (by first | omega | (unfold ra_in at *; omega)) (fun h2 => ?_) (fun h2 => ?_)
    · refine ra_iconst rfl ?_
      refine ra_store (L' := [_, _, _, _, _, _, _]) rfl rfl rfl (Nat.le_of_ble_eq_true rfl) rfl ?_
      refine ra_load rfl rfl rfl rfl ?_
      refine ra_getR rfl lk_7_10 (Nat.zero_le _) sh_0 rfl ?_
      refine ra_getR rfl lk_7_203 (Nat.zero_le _) (sh_D isD_1) rfl ?_
      refine ra_store (L' := [_, _, _, _, _, _, _]) rfl rfl rfl (Nat.le_of_ble_eq_true rfl) rfl ?_
      refine ra_load rfl rfl rfl rfl ?_
      refine ra_alen rfl (sh_D2 isD_1) rfl ?_
      refine ra_store (L' := [_, _, _, _, _, _, _]) rfl rfl rfl (Nat.le_of_ble_eq_true rfl) rfl ?_
      refine ra_iconst rfl ?_
      refine ra_store (L' := [_, _, _, _, _, _, _]) rfl rfl rfl (Nat.le_of_ble_eq_true rfl) rfl ?_
      exact ra_weak (by repeat' constructor) (lp_130_37 hx0 _ (0) (0) (by first | omega | (unfold ra_in at *; omega)) (by first | omega | (unfold ra_in at *; omega)) (by first | omega | (unfold ra_in at *; omega)) (Nat.lt_succ_self _))
    · exact ra_throw (E := "java/lang/IllegalArgumentException") rfl lk_7_128 (by decide +kernel) (fun _ => rfl) ⟨Or.inr ⟨_, by simp, rfl⟩, rfl⟩
theorem sp_131 {n : Nat} {f : Nat → Int32} {d : Nat} {x0 : Int} {σ : ra_V} (hx0 : ra_in x0) : ra_C (g_Gs n f) g_sh 0 (d + 7) 131 [.index (0), ra_I x0] σ (fun r s => rX ["java/util/NoSuchElementException"] rI r ∧ s = σ) := by
  refine ra_enter (nn := 0) mt_131 rfl (Nat.le_of_ble_eq_true rfl) rfl (fun h => absurd h (by decide +kernel)) ?_
  refine ra_load rfl rfl rfl rfl ?_
  refine ra_getR rfl lk_7_10 (Nat.zero_le _) sh_0 rfl ?_
  refine ra_load rfl rfl rfl rfl ?_
  refine ra_load rfl rfl rfl rfl ?_
  refine ra_cXNp (sp_176 hx0) rfl (ct_176 rfl lk_7_135 (Or.inl rfl) sh_0 (Nat.le_of_ble_eq_true rfl)) rfl (fun j2 hj2 => ?_) (fun E hE => ⟨Or.inr ⟨E, (show ∀ E ∈ (["java/util/NoSuchElementException"] : List String), E ∈ (["java/util/NoSuchElementException"] : List String) by decide) E hE, rfl⟩, rfl⟩)
  refine ra_cIp (sp_31 isD_1 hj2) rfl (ct_31 rfl lk_7_216 (Or.inl rfl) (sh_D isD_1) (Nat.le_of_ble_eq_true rfl)) (fun z4 hz4 => ?_)
  exact ra_ireturn rfl rfl ⟨Or.inl (⟨_, hz4, rfl⟩), rfl⟩
theorem lp_132_16 {n : Nat} {f : Nat → Int32} {d : Nat}  {σ : ra_V}  : ∀ (nn : Nat) (v1 : Int) (v4 : Int) (hv1 : ra_in v1) (hv4_0 : 0 ≤ v4) (hv4_1 : v4 ≤ 8) (hm : ((8 - v4 : Int)).toNat < nn), ra_P (g_Gs n f) g_sh 0 (d + 4) g_m_X7_verify 16 [some (.index (0)), some (ra_I v1), some (.index (1 + 2)), some (ra_I ((8 : Nat) : Int)), some (ra_I v4), none] [] σ (fun r s => rI r ∧ s = σ) := by
  intro nn
  induction nn with
  | zero => intro v1 v4 hv1 hv4_0 hv4_1 hm; exact absurd hm (Nat.not_lt_zero _)
  | succ nn ih =>
    intro v1 v4 hv1 hv4_0 hv4_1 hm
    refine ra_load rfl rfl rfl rfl ?_
    refine ra_load rfl rfl rfl rfl ?_
    refine ra_icge rfl rfl (by first | omega | (unfold ra_in at *; omega)) (by first | omega | (unfold ra_in at *; omega)) (fun h1 => ?_) (fun h1 => ?_)
    · refine ra_load rfl rfl rfl rfl ?_
      exact ra_ireturn rfl rfl ⟨⟨_, hv1, rfl⟩, rfl⟩
    · refine ra_load rfl rfl rfl rfl ?_
      refine ra_load rfl rfl rfl rfl ?_
      refine ra_aaload rfl (sh_D2 isD_1) rfl (by decide) (by first | omega | (unfold ra_in at *; omega)) (by first | omega | (unfold ra_in at *; omega)) (sh_pt (by first | omega | (unfold ra_in at *; omega)) (by first | omega | (unfold ra_in at *; omega))) rfl ?_
      have hi2 : v4.toNat < 8 := (by first | omega | (unfold ra_in at *; omega))
      refine ra_store (L' := [_, _, _, _, _, _]) rfl rfl rfl (Nat.le_of_ble_eq_true rfl) rfl ?_
      refine ra_load rfl rfl rfl rfl ?_
      refine ra_cBp (sp_92 isD_1 hi2) rfl (ct_92 rfl lk_7_212 (Or.inl rfl) (sh_P isD_1 hi2) (Nat.le_of_ble_eq_true rfl)) (fun z4 hz4 => ?_)
      refine ra_ifeq rfl rfl (ra_in01 hz4) (fun h5 => ?_) (fun h5 => ?_)
      · refine ra_iinc (L' := [_, _, _, _, _, _]) rfl rfl (Nat.le_of_ble_eq_true rfl) rfl ?_
        refine ra_goto rfl rfl ?_
        exact ra_weak (by repeat' constructor) (ih v1 (v4 + 1) hv1 (by first | omega | (unfold ra_in at *; omega)) (by first | omega | (unfold ra_in at *; omega)) (by first | omega | (unfold ra_in at *; omega)))
      · refine ra_load rfl rfl rfl rfl ?_
        refine ra_getR rfl lk_7_10 (Nat.zero_le _) sh_0 rfl ?_
        refine ra_load rfl rfl rfl rfl ?_
        refine ra_cBp (sp_30 isD_1 hi2) rfl (ct_30 rfl lk_7_181 (Or.inl rfl) (sh_D isD_1) (Nat.le_of_ble_eq_true rfl)) (fun z7 hz7 => ?_)
        refine ra_ifeq rfl rfl (ra_in01 hz7) (fun h8 => ?_) (fun h8 => ?_)
        · refine ra_iinc (L' := [_, _, _, _, _, _]) rfl rfl (Nat.le_of_ble_eq_true rfl) rfl ?_
          refine ra_goto rfl rfl ?_
          exact ra_weak (by repeat' constructor) (ih v1 (v4 + 1) hv1 (by first | omega | (unfold ra_in at *; omega)) (by first | omega | (unfold ra_in at *; omega)) (by first | omega | (unfold ra_in at *; omega)))
        · refine ra_load rfl rfl rfl rfl ?_
          refine ra_iconst rfl ?_
          refine ra_load rfl rfl rfl rfl ?_
          refine ra_getK rfl lk_7_190 (Nat.zero_le _) (sh_P isD_1 hi2) rfl ?_
          refine ra_ishl rfl ?_
          refine ra_gen (fun z9 hz9 => ?_)
          refine ra_ior rfl ?_
          refine ra_gen (fun z10 hz10 => ?_)
          refine ra_store (L' := [_, _, _, _, _, _]) rfl rfl rfl (Nat.le_of_ble_eq_true rfl) rfl ?_
          refine ra_iinc (L' := [_, _, _, _, _, _]) rfl rfl (Nat.le_of_ble_eq_true rfl) rfl ?_
          refine ra_goto rfl rfl ?_
          exact ra_weak (by repeat' constructor) (ih z10 (v4 + 1) hz10 (by first | omega | (unfold ra_in at *; omega)) (by first | omega | (unfold ra_in at *; omega)) (by first | omega | (unfold ra_in at *; omega)))
theorem sp_132 {n : Nat} {f : Nat → Int32} {d : Nat}  {σ : ra_V}  : ra_C (g_Gs n f) g_sh 0 (d + 5) 132 [.index (0)] σ (fun r s => rI r ∧ s = σ) := by
  refine ra_enter (nn := 5) mt_132 rfl (Nat.le_of_ble_eq_true rfl) rfl (fun h => absurd h (by decide +kernel)) ?_
  refine ra_iconst rfl ?_
  refine ra_store (L' := [_, _, _, _, _, _]) rfl rfl rfl (Nat.le_of_ble_eq_true rfl) rfl ?_
  refine ra_load rfl rfl rfl rfl ?_
  refine ra_getR rfl lk_7_10 (Nat.zero_le _) sh_0 rfl ?_
  refine ra_getR rfl lk_7_203 (Nat.zero_le _) (sh_D isD_1) rfl ?_
  refine ra_store (L' := [_, _, _, _, _, _]) rfl rfl rfl (Nat.le_of_ble_eq_true rfl) rfl ?_
  refine ra_load rfl rfl rfl rfl ?_
  refine ra_alen rfl (sh_D2 isD_1) rfl ?_
  refine ra_store (L' := [_, _, _, _, _, _]) rfl rfl rfl (Nat.le_of_ble_eq_true rfl) rfl ?_
  refine ra_iconst rfl ?_
  refine ra_store (L' := [_, _, _, _, _, _]) rfl rfl rfl (Nat.le_of_ble_eq_true rfl) rfl ?_
  exact ra_weak (by repeat' constructor) (lp_132_16  _ (0) (0) (by first | omega | (unfold ra_in at *; omega)) (by first | omega | (unfold ra_in at *; omega)) (by first | omega | (unfold ra_in at *; omega)) (Nat.lt_succ_self _))
theorem sp_133 {n : Nat} {f : Nat → Int32} {d : Nat} {x0 : Int} {x1 : Int} {σ : ra_V} (hx0 : ra_in x0) (hx1 : ra_in x1) : ra_C (g_Gs n f) g_sh 0 (d + 7) 133 [.index (0), ra_I x0, ra_I x1] σ (fun r s => rX ["java/lang/IndexOutOfBoundsException", "java/lang/IllegalArgumentException"] rI r ∧ Fr (172) (175) σ s) := by
  refine ra_enter (nn := 1) mt_133 rfl (Nat.le_of_ble_eq_true rfl) rfl (fun _ => by omega) ?_
  refine ra_load rfl rfl rfl rfl ?_
  refine ra_cR (sp_175 ) rfl (ct_175 rfl lk_7_106 (Or.inl rfl) sh_0 (Nat.le_of_ble_eq_true rfl)) (fun s1 hs1 => ?_)
  have hF2 := Fr_tr (lo := 172) (hi := 175) Fr_rf hs1 (by omega)
  refine ra_store (L' := [_, _, _, _]) rfl rfl rfl (Nat.le_of_ble_eq_true rfl) rfl ?_
  refine ra_load rfl rfl rfl rfl ?_
  refine ra_iflt rfl rfl hx0 (fun h3 => ?_) (fun h3 => ?_)
  · exact ra_throw (E := "java/lang/IndexOutOfBoundsException") rfl lk_7_172 (by decide +kernel) (fun _ => rfl) ⟨Or.inr ⟨_, by simp, rfl⟩, hF2⟩
  · refine ra_load rfl rfl rfl rfl ?_
    refine ra_load rfl rfl rfl rfl ?_
    refine ra_getI rfl lk_7_113 (Nat.zero_le _) sh_172 rfl ?_
    refine ra_gen (fun z4 hz4 => ?_)
    refine ra_iclt rfl rfl hx0 hz4 (fun h5 => ?_) (fun h5 => ?_)
    · refine ra_load rfl rfl rfl rfl ?_
      by_cases h6 : x1 = 0
      · refine ra_switch (t := 60) rfl hx1 ⟨by decide, by decide, by decide⟩ (Or.inl ⟨(0, 32), by rw [h6]; rfl, rfl⟩) ?_
        refine ra_load rfl rfl rfl rfl ?_
        refine ra_load rfl rfl rfl rfl ?_
        refine ra_cIp (sp_50 hx0) rfl (ct_50 rfl lk_7_222 (Or.inl rfl) sh_172 (Nat.le_of_ble_eq_true rfl)) (fun z8 hz8 => ?_)
        exact ra_ireturn rfl rfl ⟨Or.inl (⟨_, hz8, rfl⟩), hF2⟩
      by_cases h9 : x1 = 1
      · refine ra_switch (t := 66) rfl hx1 ⟨by decide, by decide, by decide⟩ (Or.inl ⟨(1, 38), by rw [h9]; rfl, rfl⟩) ?_
        refine ra_load rfl rfl rfl rfl ?_
        refine ra_load rfl rfl rfl rfl ?_
        refine ra_cIp (sp_51 hx0) rfl (ct_51 rfl lk_7_224 (Or.inl rfl) sh_172 (Nat.le_of_ble_eq_true rfl)) (fun z11 hz11 => ?_)
        exact ra_ireturn rfl rfl ⟨Or.inl (⟨_, hz11, rfl⟩), hF2⟩
      by_cases h12 : x1 = 2
      · refine ra_switch (t := 72) rfl hx1 ⟨by decide, by decide, by decide⟩ (Or.inl ⟨(2, 44), by rw [h12]; rfl, rfl⟩) ?_
        refine ra_load rfl rfl rfl rfl ?_
        refine ra_load rfl rfl rfl rfl ?_
        refine ra_cIp (sp_53 hx0) rfl (ct_53 rfl lk_7_226 (Or.inl rfl) sh_172 (Nat.le_of_ble_eq_true rfl)) (fun z14 hz14 => ?_)
        refine ra_ifle rfl rfl hz14 (fun h15 => ?_) (fun h15 => ?_)
        · refine ra_iconst rfl ?_
          exact ra_ireturn rfl rfl ⟨Or.inl (⟨_, (by first | omega | (unfold ra_in at *; omega)), rfl⟩), hF2⟩
        · refine ra_load rfl rfl rfl rfl ?_
          refine ra_load rfl rfl rfl rfl ?_
          refine ra_cIp (sp_52 hx0) rfl (ct_52 rfl lk_7_229 (Or.inl rfl) sh_172 (Nat.le_of_ble_eq_true rfl)) (fun z17 hz17 => ?_)
          refine ra_goto rfl rfl ?_
          exact ra_ireturn rfl rfl ⟨Or.inl (⟨_, hz17, rfl⟩), hF2⟩
      by_cases h18 : x1 = 3
      · refine ra_switch (t := 90) rfl hx1 ⟨by decide, by decide, by decide⟩ (Or.inl ⟨(3, 62), by rw [h18]; rfl, rfl⟩) ?_
        refine ra_load rfl rfl rfl rfl ?_
        refine ra_load rfl rfl rfl rfl ?_
        refine ra_cIp (sp_53 hx0) rfl (ct_53 rfl lk_7_226 (Or.inl rfl) sh_172 (Nat.le_of_ble_eq_true rfl)) (fun z20 hz20 => ?_)
        exact ra_ireturn rfl rfl ⟨Or.inl (⟨_, hz20, rfl⟩), hF2⟩
      refine ra_switch (t := 96) rfl hx1 ⟨by decide, by decide, by decide⟩ (Or.inr ⟨ra_sw_none (by simp only [List.length]; omega), rfl⟩) ?_
      exact ra_throw (E := "java/lang/IllegalArgumentException") rfl lk_7_128 (by decide +kernel) (fun _ => rfl) ⟨Or.inr ⟨_, by simp, rfl⟩, hF2⟩
    · exact ra_throw (E := "java/lang/IndexOutOfBoundsException") rfl lk_7_172 (by decide +kernel) (fun _ => rfl) ⟨Or.inr ⟨_, by simp, rfl⟩, hF2⟩
theorem sp_134 {n : Nat} {f : Nat → Int32} {d : Nat}  {σ : ra_V}  : ra_C (g_Gs n f) g_sh 0 (d + 7) 134 [.index (0)] σ (fun r s => rI r ∧ Fr (172) (175) σ s) := by
  refine ra_enter (nn := 0) mt_134 rfl (Nat.le_of_ble_eq_true rfl) rfl (fun h => absurd h (by decide +kernel)) ?_
  refine ra_load rfl rfl rfl rfl ?_
  refine ra_cR (sp_175 ) rfl (ct_175 rfl lk_7_106 (Or.inl rfl) sh_0 (Nat.le_of_ble_eq_true rfl)) (fun s1 hs1 => ?_)
  have hF2 := Fr_tr (lo := 172) (hi := 175) Fr_rf hs1 (by omega)
  refine ra_cIp (sp_56 ) rfl (ct_56 rfl lk_7_232 (Or.inl rfl) sh_172 (Nat.le_of_ble_eq_true rfl)) (fun z4 hz4 => ?_)
  exact ra_ireturn rfl rfl ⟨⟨_, hz4, rfl⟩, hF2⟩
theorem sp_135 {n : Nat} {f : Nat → Int32} {d : Nat} {x0 : Int} {x1 : Int} {σ : ra_V} (hx0 : ra_in x0) (hx1 : ra_in x1) : ra_C (g_Gs n f) g_sh 0 (d + 7) 135 [.index (0), ra_I x0, ra_I x1] σ (fun r s => rX ["java/lang/IllegalArgumentException"] rI r ∧ Fr (172) (175) σ s) := by
  refine ra_enter (nn := 0) mt_135 rfl (Nat.le_of_ble_eq_true rfl) rfl (fun h => absurd h (by decide +kernel)) ?_
  refine ra_load rfl rfl rfl rfl ?_
  refine ra_load rfl rfl rfl rfl ?_
  refine ra_cXVp (sp_179 hx1) rfl (ct_179 rfl lk_7_235 (Or.inl rfl) sh_0 (Nat.le_of_ble_eq_true rfl)) rfl ?_ (fun E hE => ⟨Or.inr ⟨E, (show ∀ E ∈ (["java/lang/IllegalArgumentException"] : List String), E ∈ (["java/lang/IllegalArgumentException"] : List String) by decide) E hE, rfl⟩, Fr_rf⟩)
  refine ra_load rfl rfl rfl rfl ?_
  refine ra_cR (sp_175 ) rfl (ct_175 rfl lk_7_106 (Or.inl rfl) sh_0 (Nat.le_of_ble_eq_true rfl)) (fun s2 hs2 => ?_)
  have hF3 := Fr_tr (lo := 172) (hi := 175) Fr_rf hs2 (by omega)
  refine ra_load rfl rfl rfl rfl ?_
  refine ra_load rfl rfl rfl rfl ?_
  refine ra_cIp (sp_59 hx0 hx1) rfl (ct_59 rfl lk_7_238 (Or.inl rfl) sh_172 (Nat.le_of_ble_eq_true rfl)) (fun z5 hz5 => ?_)
  exact ra_ireturn rfl rfl ⟨Or.inl (⟨_, hz5, rfl⟩), hF3⟩
theorem sp_136 {n : Nat} {f : Nat → Int32} {d : Nat}  {σ : ra_V}  : ra_C (g_Gs n f) g_sh 0 (d + 7) 136 [.index (0)] σ (fun r s => rI r ∧ Fr (172) (175) σ s) := by
  refine ra_enter (nn := 1) mt_136 rfl (Nat.le_of_ble_eq_true rfl) rfl (fun h => absurd h (by decide +kernel)) ?_
  refine ra_load rfl rfl rfl rfl ?_
  refine ra_cR (sp_175 ) rfl (ct_175 rfl lk_7_106 (Or.inl rfl) sh_0 (Nat.le_of_ble_eq_true rfl)) (fun s1 hs1 => ?_)
  have hF2 := Fr_tr (lo := 172) (hi := 175) Fr_rf hs1 (by omega)
  refine ra_store (L' := [_, _]) rfl rfl rfl (Nat.le_of_ble_eq_true rfl) rfl ?_
  refine ra_load rfl rfl rfl rfl ?_
  refine ra_cIp (sp_54 ) rfl (ct_54 rfl lk_7_110 (Or.inl rfl) sh_172 (Nat.le_of_ble_eq_true rfl)) (fun z4 hz4 => ?_)
  refine ra_load rfl rfl rfl rfl ?_
  refine ra_cIp (sp_55 ) rfl (ct_55 rfl lk_7_242 (Or.inl rfl) sh_172 (Nat.le_of_ble_eq_true rfl)) (fun z6 hz6 => ?_)
  refine ra_isub rfl ?_
  refine ra_gen (fun z7 hz7 => ?_)
  exact ra_ireturn rfl rfl ⟨⟨_, hz7, rfl⟩, hF2⟩
theorem sp_138 {n : Nat} {f : Nat → Int32} {d : Nat} {x0 : Int} {σ : ra_V} (hx0 : ra_in x0) : ra_C (g_Gs n f) g_sh 0 (d + 7) 138 [.index (0), ra_I x0] σ (fun r s => rX ["java/lang/IndexOutOfBoundsException"] rI r ∧ Fr (172) (175) σ s) := by
  refine ra_enter (nn := 0) mt_138 rfl (Nat.le_of_ble_eq_true rfl) rfl (fun h => absurd h (by decide +kernel)) ?_
  refine ra_load rfl rfl rfl rfl ?_
  refine ra_load rfl rfl rfl rfl ?_
  refine ra_cXVp (sp_177 hx0) rfl (ct_177 rfl lk_7_162 (Or.inl rfl) sh_0 (Nat.le_of_ble_eq_true rfl)) rfl ?_ (fun E hE => ⟨Or.inr ⟨E, (show ∀ E ∈ (["java/lang/IndexOutOfBoundsException"] : List String), E ∈ (["java/lang/IndexOutOfBoundsException"] : List String) by decide) E hE, rfl⟩, Fr_rf⟩)
  refine ra_load rfl rfl rfl rfl ?_
  refine ra_cR (sp_175 ) rfl (ct_175 rfl lk_7_106 (Or.inl rfl) sh_0 (Nat.le_of_ble_eq_true rfl)) (fun s2 hs2 => ?_)
  have hF3 := Fr_tr (lo := 172) (hi := 175) Fr_rf hs2 (by omega)
  refine ra_load rfl rfl rfl rfl ?_
  refine ra_cIp (sp_58 hx0) rfl (ct_58 rfl lk_7_245 (Or.inl rfl) sh_172 (Nat.le_of_ble_eq_true rfl)) (fun z5 hz5 => ?_)
  exact ra_ireturn rfl rfl ⟨Or.inl (⟨_, hz5, rfl⟩), hF3⟩
theorem sp_139 {n : Nat} {f : Nat → Int32} {d : Nat} {x0 : Int} {x1 : Int} {σ : ra_V} (hx0 : ra_in x0) (hx1 : ra_in x1) : ra_C (g_Gs n f) g_sh 0 (d + 4) 139 [.index (0), ra_I x0, ra_I x1] σ (fun r s => rI r ∧ s = σ) := by
  refine ra_enter (nn := 0) mt_139 rfl (Nat.le_of_ble_eq_true rfl) rfl (fun h => absurd h (by decide +kernel)) ?_
  refine ra_load rfl rfl rfl rfl ?_
  refine ra_getR rfl lk_7_10 (Nat.zero_le _) sh_0 rfl ?_
  refine ra_load rfl rfl rfl rfl ?_
  refine ra_load rfl rfl rfl rfl ?_
  refine ra_cIp (sp_16 isD_1 hx0 hx1) rfl (ct_16 rfl lk_7_248 (Or.inl rfl) (sh_D isD_1) (Nat.le_of_ble_eq_true rfl)) (fun z2 hz2 => ?_)
  exact ra_ireturn rfl rfl ⟨⟨_, hz2, rfl⟩, rfl⟩
theorem sp_144 {n : Nat} {f : Nat → Int32} {d : Nat} {x0 : Int} {x1 : Int} {σ : ra_V} (hx0 : ra_in x0) (hx1 : ra_in x1) : ra_C (g_Gs n f) g_sh 0 (d + 7) 144 [.index (0), ra_I x0, ra_I x1] σ (fun r s => rX ["java/util/NoSuchElementException"] rI r ∧ s = σ) := by
  refine ra_enter (nn := 0) mt_144 rfl (Nat.le_of_ble_eq_true rfl) rfl (fun h => absurd h (by decide +kernel)) ?_
  refine ra_load rfl rfl rfl rfl ?_
  refine ra_getR rfl lk_7_10 (Nat.zero_le _) sh_0 rfl ?_
  refine ra_load rfl rfl rfl rfl ?_
  refine ra_load rfl rfl rfl rfl ?_
  refine ra_cXNp (sp_176 hx0) rfl (ct_176 rfl lk_7_135 (Or.inl rfl) sh_0 (Nat.le_of_ble_eq_true rfl)) rfl (fun j2 hj2 => ?_) (fun E hE => ⟨Or.inr ⟨E, (show ∀ E ∈ (["java/util/NoSuchElementException"] : List String), E ∈ (["java/util/NoSuchElementException"] : List String) by decide) E hE, rfl⟩, rfl⟩)
  refine ra_load rfl rfl rfl rfl ?_
  refine ra_cIp (sp_17 isD_1 hj2 hx1) rfl (ct_17 rfl lk_7_276 (Or.inl rfl) (sh_D isD_1) (Nat.le_of_ble_eq_true rfl)) (fun z4 hz4 => ?_)
  exact ra_ireturn rfl rfl ⟨Or.inl (⟨_, hz4, rfl⟩), rfl⟩
theorem lp_148_11 {n : Nat} {f : Nat → Int32} {d : Nat} {x0 : Int} {σ : ra_V} (hx0 : ra_in x0) : ∀ (nn : Nat) (q2 : Nat) (v3 : Int) (hq2 : q2 < 8) (hv3_0 : ra_in v3) (hm : ((600 - v3 : Int)).toNat < nn), ra_P (g_Gs n f) g_sh 0 (d + 6) g_m_X7_growsTo 11 [some (.index (0)), none, some (.index (1 + 5 + q2)), some (ra_I v3)] [] σ (fun r s => rX ["java/util/NoSuchElementException"] rI r ∧ s = σ) := by
  intro nn
  induction nn with
  | zero => intro q2 v3 hq2 hv3_0 hm; exact absurd hm (Nat.not_lt_zero _)
  | succ nn ih =>
    intro q2 v3 hq2 hv3_0 hm
    refine ra_load rfl rfl rfl rfl ?_
    refine ra_sipush rfl (by decide) ?_
    refine ra_icge rfl rfl (by first | omega | (unfold ra_in at *; omega)) (by first | omega | (unfold ra_in at *; omega)) (fun h4 => ?_) (fun h4 => ?_)
    · refine ra_load rfl rfl rfl rfl ?_
      exact ra_ireturn rfl rfl ⟨Or.inl (⟨_, (by first | omega | (unfold ra_in at *; omega)), rfl⟩), rfl⟩
    · refine ra_load rfl rfl rfl rfl ?_
      refine ra_getR rfl lk_7_10 (Nat.zero_le _) sh_0 rfl ?_
      refine ra_load rfl rfl rfl rfl ?_
      refine ra_load rfl rfl rfl rfl ?_
      refine ra_iconst rfl ?_
      refine ra_iadd rfl ?_
      refine ra_gen (fun z5 hz5 => ?_)
      refine ra_cIp (sp_18 isD_1 hq2 hz5) rfl (ct_18 rfl lk_7_291 (Or.inl rfl) (sh_D isD_1) (Nat.le_of_ble_eq_true rfl)) (fun z7 hz7 => ?_)
      refine ra_ifne rfl rfl hz7 (fun h8 => ?_) (fun h8 => ?_)
      · refine ra_load rfl rfl rfl rfl ?_
        exact ra_ireturn rfl rfl ⟨Or.inl (⟨_, (by first | omega | (unfold ra_in at *; omega)), rfl⟩), rfl⟩
      · refine ra_iinc (L' := [_, _, _, _]) rfl rfl (Nat.le_of_ble_eq_true rfl) rfl ?_
        refine ra_goto rfl rfl ?_
        exact ra_weak (by repeat' constructor) (ih q2 (v3 + 1) hq2 (by first | omega | (unfold ra_in at *; omega)) (by first | omega | (unfold ra_in at *; omega)))
theorem sp_148 {n : Nat} {f : Nat → Int32} {d : Nat} {x0 : Int} {σ : ra_V} (hx0 : ra_in x0) : ra_C (g_Gs n f) g_sh 0 (d + 7) 148 [.index (0), ra_I x0] σ (fun r s => rX ["java/util/NoSuchElementException"] rI r ∧ s = σ) := by
  refine ra_enter (nn := 2) mt_148 rfl (Nat.le_of_ble_eq_true rfl) rfl (fun h => absurd h (by decide +kernel)) ?_
  refine ra_load rfl rfl rfl rfl ?_
  refine ra_load rfl rfl rfl rfl ?_
  refine ra_cXNp (sp_176 hx0) rfl (ct_176 rfl lk_7_135 (Or.inl rfl) sh_0 (Nat.le_of_ble_eq_true rfl)) rfl (fun j2 hj2 => ?_) (fun E hE => ⟨Or.inr ⟨E, (show ∀ E ∈ (["java/util/NoSuchElementException"] : List String), E ∈ (["java/util/NoSuchElementException"] : List String) by decide) E hE, rfl⟩, rfl⟩)
  refine ra_store (L' := [_, _, _, _]) rfl rfl rfl (Nat.le_of_ble_eq_true rfl) rfl ?_
  refine ra_load rfl rfl rfl rfl ?_
  refine ra_getI rfl lk_7_144 (Nat.zero_le _) (sh_P isD_1 hj2) rfl ?_
  refine ra_gen (fun z3 hz3 => ?_)
  refine ra_store (L' := [_, _, _, _]) rfl rfl rfl (Nat.le_of_ble_eq_true rfl) rfl ?_
  exact ra_weak (by repeat' constructor) (lp_148_11 hx0 _ j2 z3 hj2 hz3 (Nat.lt_succ_self _))
theorem sp_154 {n : Nat} {f : Nat → Int32} {d : Nat} {x0 : Int} {x1 : Int} {σ : ra_V} (hx0 : ra_in x0) (hx1 : ra_in x1) : ra_C (g_Gs n f) g_sh 0 (d + 7) 154 [.index (0), ra_I x0, ra_I x1] σ (fun r s => rX ["java/util/NoSuchElementException"] rI r ∧ s = σ) := by
  refine ra_enter (nn := 0) mt_154 rfl (Nat.le_of_ble_eq_true rfl) rfl (fun h => absurd h (by decide +kernel)) ?_
  refine ra_load rfl rfl rfl rfl ?_
  refine ra_getR rfl lk_7_10 (Nat.zero_le _) sh_0 rfl ?_
  refine ra_load rfl rfl rfl rfl ?_
  refine ra_load rfl rfl rfl rfl ?_
  refine ra_cXNp (sp_176 hx0) rfl (ct_176 rfl lk_7_135 (Or.inl rfl) sh_0 (Nat.le_of_ble_eq_true rfl)) rfl (fun j2 hj2 => ?_) (fun E hE => ⟨Or.inr ⟨E, (show ∀ E ∈ (["java/util/NoSuchElementException"] : List String), E ∈ (["java/util/NoSuchElementException"] : List String) by decide) E hE, rfl⟩, rfl⟩)
  refine ra_load rfl rfl rfl rfl ?_
  refine ra_load rfl rfl rfl rfl ?_
  refine ra_getR rfl lk_7_10 (Nat.zero_le _) sh_0 rfl ?_
  refine ra_getI rfl lk_7_103 (Nat.zero_le _) (sh_D isD_1) rfl ?_
  refine ra_gen (fun z3 hz3 => ?_)
  refine ra_cIp (sp_19 isD_1 hj2 hx1 hz3) rfl (ct_19 rfl lk_7_313 (Or.inl rfl) (sh_D isD_1) (Nat.le_of_ble_eq_true rfl)) (fun z5 hz5 => ?_)
  exact ra_ireturn rfl rfl ⟨Or.inl (⟨_, hz5, rfl⟩), rfl⟩
theorem sp_155 {n : Nat} {f : Nat → Int32} {d : Nat} {x0 : Int} {x1 : Int} {σ : ra_V} (hx0 : ra_in x0) (hx1 : ra_in x1) : ra_C (g_Gs n f) g_sh 0 (d + 7) 155 [.index (0), ra_I x0, ra_I x1] σ (fun r s => rX ["java/util/NoSuchElementException"] rI r ∧ s = σ) := by
  refine ra_enter (nn := 0) mt_155 rfl (Nat.le_of_ble_eq_true rfl) rfl (fun h => absurd h (by decide +kernel)) ?_
  refine ra_load rfl rfl rfl rfl ?_
  refine ra_getR rfl lk_7_10 (Nat.zero_le _) sh_0 rfl ?_
  refine ra_load rfl rfl rfl rfl ?_
  refine ra_load rfl rfl rfl rfl ?_
  refine ra_cXNp (sp_176 hx0) rfl (ct_176 rfl lk_7_135 (Or.inl rfl) sh_0 (Nat.le_of_ble_eq_true rfl)) rfl (fun j2 hj2 => ?_) (fun E hE => ⟨Or.inr ⟨E, (show ∀ E ∈ (["java/util/NoSuchElementException"] : List String), E ∈ (["java/util/NoSuchElementException"] : List String) by decide) E hE, rfl⟩, rfl⟩)
  refine ra_load rfl rfl rfl rfl ?_
  refine ra_load rfl rfl rfl rfl ?_
  refine ra_getR rfl lk_7_10 (Nat.zero_le _) sh_0 rfl ?_
  refine ra_getI rfl lk_7_103 (Nat.zero_le _) (sh_D isD_1) rfl ?_
  refine ra_gen (fun z3 hz3 => ?_)
  refine ra_cIp (sp_35 isD_1 hj2 hx1 hz3) rfl (ct_35 rfl lk_7_317 (Or.inl rfl) (sh_D isD_1) (Nat.le_of_ble_eq_true rfl)) (fun z5 hz5 => ?_)
  exact ra_ireturn rfl rfl ⟨Or.inl (⟨_, hz5, rfl⟩), rfl⟩
theorem lp_156_15 {n : Nat} {f : Nat → Int32} {d : Nat} {x0 : Int} {x1 : Int} {σ : ra_V} (hx0 : ra_in x0) (hx1 : ra_in x1) : ∀ (nn : Nat) (q3 : Nat) (v4 : Int) (v5 : Int) (v6 : Int) (hq3 : q3 < 8) (hv4 : ra_in v4) (hv5 : ra_in v5) (hv6_0 : 1 ≤ v6) (hv6_1 : v6 ≤ 17) (hm : ((17 - v6 : Int)).toNat < nn), ra_P (g_Gs n f) g_sh 0 (d + 6) g_m_X7_bestChunk 15 [some (.index (0)), none, some (ra_I x1), some (.index (1 + 5 + q3)), some (ra_I v4), some (ra_I v5), some (ra_I v6), none] [] σ (fun r s => rX ["java/util/NoSuchElementException"] rI r ∧ s = σ) := by
  intro nn
  induction nn with
  | zero => intro q3 v4 v5 v6 hq3 hv4 hv5 hv6_0 hv6_1 hm; exact absurd hm (Nat.not_lt_zero _)
  | succ nn ih =>
    intro q3 v4 v5 v6 hq3 hv4 hv5 hv6_0 hv6_1 hm
    refine ra_load rfl rfl rfl rfl ?_
    refine ra_bipush rfl (by decide) ?_
    refine ra_icgt rfl rfl (by first | omega | (unfold ra_in at *; omega)) (by first | omega | (unfold ra_in at *; omega)) (fun h3 => ?_) (fun h3 => ?_)
    · refine ra_load rfl rfl rfl rfl ?_
      exact ra_ireturn rfl rfl ⟨Or.inl (⟨_, hv4, rfl⟩), rfl⟩
    · refine ra_load rfl rfl rfl rfl ?_
      refine ra_getR rfl lk_7_10 (Nat.zero_le _) sh_0 rfl ?_
      refine ra_load rfl rfl rfl rfl ?_
      refine ra_load rfl rfl rfl rfl ?_
      refine ra_load rfl rfl rfl rfl ?_
      refine ra_cIp (sp_35 isD_1 hq3 hx1 (by first | omega | (unfold ra_in at *; omega))) rfl (ct_35 rfl lk_7_317 (Or.inl rfl) (sh_D isD_1) (Nat.le_of_ble_eq_true rfl)) (fun z5 hz5 => ?_)
      refine ra_store (L' := [_, _, _, _, _, _, _, _]) rfl rfl rfl (Nat.le_of_ble_eq_true rfl) rfl ?_
      refine ra_load rfl rfl rfl rfl ?_
      refine ra_iflt rfl rfl hz5 (fun h6 => ?_) (fun h6 => ?_)
      · refine ra_iinc (L' := [_, _, _, _, _, _, _, _]) rfl rfl (Nat.le_of_ble_eq_true rfl) rfl ?_
        refine ra_goto rfl rfl ?_
        exact ra_weak (by repeat' constructor) (ih q3 v4 v5 (v6 + 1) hq3 hv4 hv5 (by first | omega | (unfold ra_in at *; omega)) (by first | omega | (unfold ra_in at *; omega)) (by first | omega | (unfold ra_in at *; omega)))
      · refine ra_load rfl rfl rfl rfl ?_
        refine ra_iflt rfl rfl hv4 (fun h7 => ?_) (fun h7 => ?_)
        · refine ra_load rfl rfl rfl rfl ?_
          refine ra_store (L' := [_, _, _, _, _, _, _, _]) rfl rfl rfl (Nat.le_of_ble_eq_true rfl) rfl ?_
          refine ra_load rfl rfl rfl rfl ?_
          refine ra_store (L' := [_, _, _, _, _, _, _, _]) rfl rfl rfl (Nat.le_of_ble_eq_true rfl) rfl ?_
          refine ra_iinc (L' := [_, _, _, _, _, _, _, _]) rfl rfl (Nat.le_of_ble_eq_true rfl) rfl ?_
          refine ra_goto rfl rfl ?_
          exact ra_weak (by repeat' constructor) (ih q3 v6 z5 (v6 + 1) hq3 (by first | omega | (unfold ra_in at *; omega)) hz5 (by first | omega | (unfold ra_in at *; omega)) (by first | omega | (unfold ra_in at *; omega)) (by first | omega | (unfold ra_in at *; omega)))
        · refine ra_load rfl rfl rfl rfl ?_
          refine ra_load rfl rfl rfl rfl ?_
          refine ra_icge rfl rfl hz5 hv5 (fun h8 => ?_) (fun h8 => ?_)
          · refine ra_iinc (L' := [_, _, _, _, _, _, _, _]) rfl rfl (Nat.le_of_ble_eq_true rfl) rfl ?_
            refine ra_goto rfl rfl ?_
            exact ra_weak (by repeat' constructor) (ih q3 v4 v5 (v6 + 1) hq3 hv4 hv5 (by first | omega | (unfold ra_in at *; omega)) (by first | omega | (unfold ra_in at *; omega)) (by first | omega | (unfold ra_in at *; omega)))
          · refine ra_load rfl rfl rfl rfl ?_
            refine ra_store (L' := [_, _, _, _, _, _, _, _]) rfl rfl rfl (Nat.le_of_ble_eq_true rfl) rfl ?_
            refine ra_load rfl rfl rfl rfl ?_
            refine ra_store (L' := [_, _, _, _, _, _, _, _]) rfl rfl rfl (Nat.le_of_ble_eq_true rfl) rfl ?_
            refine ra_iinc (L' := [_, _, _, _, _, _, _, _]) rfl rfl (Nat.le_of_ble_eq_true rfl) rfl ?_
            refine ra_goto rfl rfl ?_
            exact ra_weak (by repeat' constructor) (ih q3 v6 z5 (v6 + 1) hq3 (by first | omega | (unfold ra_in at *; omega)) hz5 (by first | omega | (unfold ra_in at *; omega)) (by first | omega | (unfold ra_in at *; omega)) (by first | omega | (unfold ra_in at *; omega)))
theorem sp_156 {n : Nat} {f : Nat → Int32} {d : Nat} {x0 : Int} {x1 : Int} {σ : ra_V} (hx0 : ra_in x0) (hx1 : ra_in x1) : ra_C (g_Gs n f) g_sh 0 (d + 7) 156 [.index (0), ra_I x0, ra_I x1] σ (fun r s => rX ["java/util/NoSuchElementException"] rI r ∧ s = σ) := by
  refine ra_enter (nn := 5) mt_156 rfl (Nat.le_of_ble_eq_true rfl) rfl (fun h => absurd h (by decide +kernel)) ?_
  refine ra_load rfl rfl rfl rfl ?_
  refine ra_load rfl rfl rfl rfl ?_
  refine ra_cXNp (sp_176 hx0) rfl (ct_176 rfl lk_7_135 (Or.inl rfl) sh_0 (Nat.le_of_ble_eq_true rfl)) rfl (fun j2 hj2 => ?_) (fun E hE => ⟨Or.inr ⟨E, (show ∀ E ∈ (["java/util/NoSuchElementException"] : List String), E ∈ (["java/util/NoSuchElementException"] : List String) by decide) E hE, rfl⟩, rfl⟩)
  refine ra_store (L' := [_, _, _, _, _, _, _, _]) rfl rfl rfl (Nat.le_of_ble_eq_true rfl) rfl ?_
  refine ra_iconst rfl ?_
  refine ra_store (L' := [_, _, _, _, _, _, _, _]) rfl rfl rfl (Nat.le_of_ble_eq_true rfl) rfl ?_
  refine ra_iconst rfl ?_
  refine ra_store (L' := [_, _, _, _, _, _, _, _]) rfl rfl rfl (Nat.le_of_ble_eq_true rfl) rfl ?_
  refine ra_iconst rfl ?_
  refine ra_store (L' := [_, _, _, _, _, _, _, _]) rfl rfl rfl (Nat.le_of_ble_eq_true rfl) rfl ?_
  exact ra_weak (by repeat' constructor) (lp_156_15 hx0 hx1 _ j2 (-1) (0) (1) hj2 (by first | omega | (unfold ra_in at *; omega)) (by first | omega | (unfold ra_in at *; omega)) (by first | omega | (unfold ra_in at *; omega)) (by first | omega | (unfold ra_in at *; omega)) (Nat.lt_succ_self _))
theorem sp_157 {n : Nat} {f : Nat → Int32} {d : Nat} {x0 : Int} {σ : ra_V} (hx0 : ra_in x0) : ra_C (g_Gs n f) g_sh 0 (d + 7) 157 [.index (0), ra_I x0] σ (fun r s => rX ["java/util/NoSuchElementException"] rI r ∧ s = σ) := by
  refine ra_enter (nn := 0) mt_157 rfl (Nat.le_of_ble_eq_true rfl) rfl (fun h => absurd h (by decide +kernel)) ?_
  refine ra_load rfl rfl rfl rfl ?_
  refine ra_getR rfl lk_7_10 (Nat.zero_le _) sh_0 rfl ?_
  refine ra_load rfl rfl rfl rfl ?_
  refine ra_load rfl rfl rfl rfl ?_
  refine ra_cXNp (sp_176 hx0) rfl (ct_176 rfl lk_7_135 (Or.inl rfl) sh_0 (Nat.le_of_ble_eq_true rfl)) rfl (fun j2 hj2 => ?_) (fun E hE => ⟨Or.inr ⟨E, (show ∀ E ∈ (["java/util/NoSuchElementException"] : List String), E ∈ (["java/util/NoSuchElementException"] : List String) by decide) E hE, rfl⟩, rfl⟩)
  refine ra_cIp (sp_43 isD_1 hj2) rfl (ct_43 rfl lk_7_320 (Or.inl rfl) (sh_D isD_1) (Nat.le_of_ble_eq_true rfl)) (fun z4 hz4 => ?_)
  exact ra_ireturn rfl rfl ⟨Or.inl (⟨_, hz4, rfl⟩), rfl⟩
theorem sp_158 {n : Nat} {f : Nat → Int32} {d : Nat} {x0 : Int} {σ : ra_V} (hx0 : ra_in x0) : ra_C (g_Gs n f) g_sh 0 (d + 7) 158 [.index (0), ra_I x0] σ (fun r s => rX ["java/util/NoSuchElementException"] rI r ∧ s = σ) := by
  refine ra_enter (nn := 0) mt_158 rfl (Nat.le_of_ble_eq_true rfl) rfl (fun h => absurd h (by decide +kernel)) ?_
  refine ra_load rfl rfl rfl rfl ?_
  refine ra_getR rfl lk_7_10 (Nat.zero_le _) sh_0 rfl ?_
  refine ra_load rfl rfl rfl rfl ?_
  refine ra_load rfl rfl rfl rfl ?_
  refine ra_cXNp (sp_176 hx0) rfl (ct_176 rfl lk_7_135 (Or.inl rfl) sh_0 (Nat.le_of_ble_eq_true rfl)) rfl (fun j2 hj2 => ?_) (fun E hE => ⟨Or.inr ⟨E, (show ∀ E ∈ (["java/util/NoSuchElementException"] : List String), E ∈ (["java/util/NoSuchElementException"] : List String) by decide) E hE, rfl⟩, rfl⟩)
  refine ra_cIp (sp_44 isD_1 hj2) rfl (ct_44 rfl lk_7_323 (Or.inl rfl) (sh_D isD_1) (Nat.le_of_ble_eq_true rfl)) (fun z4 hz4 => ?_)
  exact ra_ireturn rfl rfl ⟨Or.inl (⟨_, hz4, rfl⟩), rfl⟩
theorem sp_163 {n : Nat} {f : Nat → Int32} {d : Nat} {x0 : Int} {σ : ra_V} (hx0 : ra_in x0) : ra_C (g_Gs n f) g_sh 0 (d + 6) 163 [.index (0), ra_I x0] σ (fun r s => rX ["java/lang/IllegalArgumentException"] rI r ∧ s = σ) := by
  refine ra_enter (nn := 1) mt_163 rfl (Nat.le_of_ble_eq_true rfl) rfl (fun _ => by omega) ?_
  refine ra_load rfl rfl rfl rfl ?_
  refine ra_iflt rfl rfl hx0 (fun h1 => ?_) (fun h1 => ?_)
  · exact ra_throw (E := "java/lang/IllegalArgumentException") rfl lk_7_128 (by decide +kernel) (fun _ => rfl) ⟨Or.inr ⟨_, by simp, rfl⟩, rfl⟩
  · refine ra_load rfl rfl rfl rfl ?_
    refine ra_bipush rfl (by decide) ?_
    refine ra_icle rfl rfl hx0 (by first | omega | (unfold ra_in at *; omega)) (fun h2 => ?_) (fun h2 => ?_)
    · refine ra_load rfl rfl rfl rfl ?_
      refine ra_getR rfl lk_7_10 (Nat.zero_le _) sh_0 rfl ?_
      refine ra_getR rfl lk_7_331 (Nat.zero_le _) (sh_D isD_1) rfl ?_
      refine ra_store (L' := [_, _, _]) rfl rfl rfl (Nat.le_of_ble_eq_true rfl) rfl ?_
      refine ra_load rfl rfl rfl rfl ?_
      refine ra_cBp (sp_67 isD_1) rfl (ct_67 rfl lk_7_359 (Or.inl rfl) (sh_D3 isD_1) (Nat.le_of_ble_eq_true rfl)) (fun z4 hz4 => ?_)
      refine ra_ifne rfl rfl (ra_in01 hz4) (fun h5 => ?_) (fun h5 => ?_)
      · refine ra_load rfl rfl rfl rfl ?_
        by_cases h6 : x0 = 0
        · refine ra_switch (t := 84) rfl hx0 ⟨by decide, by decide, by decide⟩ (Or.inl ⟨(0, 46), by rw [h6]; rfl, rfl⟩) ?_
          refine ra_load rfl rfl rfl rfl ?_
          refine ra_getI rfl lk_7_362 (Nat.zero_le _) (sh_D3 isD_1) rfl ?_
          refine ra_gen (fun z7 hz7 => ?_)
          exact ra_ireturn rfl rfl ⟨Or.inl (⟨_, hz7, rfl⟩), rfl⟩
        by_cases h8 : x0 = 1
        · refine ra_switch (t := 89) rfl hx0 ⟨by decide, by decide, by decide⟩ (Or.inl ⟨(1, 51), by rw [h8]; rfl, rfl⟩) ?_
          refine ra_load rfl rfl rfl rfl ?_
          refine ra_getI rfl lk_7_365 (Nat.zero_le _) (sh_D3 isD_1) rfl ?_
          refine ra_gen (fun z9 hz9 => ?_)
          exact ra_ireturn rfl rfl ⟨Or.inl (⟨_, hz9, rfl⟩), rfl⟩
        by_cases h10 : x0 = 2
        · refine ra_switch (t := 94) rfl hx0 ⟨by decide, by decide, by decide⟩ (Or.inl ⟨(2, 56), by rw [h10]; rfl, rfl⟩) ?_
          refine ra_load rfl rfl rfl rfl ?_
          refine ra_getI rfl lk_7_368 (Nat.zero_le _) (sh_D3 isD_1) rfl ?_
          refine ra_gen (fun z11 hz11 => ?_)
          exact ra_ireturn rfl rfl ⟨Or.inl (⟨_, hz11, rfl⟩), rfl⟩
        by_cases h12 : x0 = 3
        · refine ra_switch (t := 99) rfl hx0 ⟨by decide, by decide, by decide⟩ (Or.inl ⟨(3, 61), by rw [h12]; rfl, rfl⟩) ?_
          refine ra_load rfl rfl rfl rfl ?_
          refine ra_getI rfl lk_7_371 (Nat.zero_le _) (sh_D3 isD_1) rfl ?_
          refine ra_gen (fun z13 hz13 => ?_)
          exact ra_ireturn rfl rfl ⟨Or.inl (⟨_, hz13, rfl⟩), rfl⟩
        by_cases h14 : x0 = 4
        · refine ra_switch (t := 104) rfl hx0 ⟨by decide, by decide, by decide⟩ (Or.inl ⟨(4, 66), by rw [h14]; rfl, rfl⟩) ?_
          refine ra_load rfl rfl rfl rfl ?_
          refine ra_getI rfl lk_7_374 (Nat.zero_le _) (sh_D3 isD_1) rfl ?_
          refine ra_gen (fun z15 hz15 => ?_)
          exact ra_ireturn rfl rfl ⟨Or.inl (⟨_, hz15, rfl⟩), rfl⟩
        by_cases h16 : x0 = 5
        · refine ra_switch (t := 109) rfl hx0 ⟨by decide, by decide, by decide⟩ (Or.inl ⟨(5, 71), by rw [h16]; rfl, rfl⟩) ?_
          refine ra_load rfl rfl rfl rfl ?_
          refine ra_getI rfl lk_7_375 (Nat.zero_le _) (sh_D3 isD_1) rfl ?_
          refine ra_gen (fun z17 hz17 => ?_)
          exact ra_ireturn rfl rfl ⟨Or.inl (⟨_, hz17, rfl⟩), rfl⟩
        by_cases h18 : x0 = 6
        · refine ra_switch (t := 114) rfl hx0 ⟨by decide, by decide, by decide⟩ (Or.inl ⟨(6, 76), by rw [h18]; rfl, rfl⟩) ?_
          refine ra_load rfl rfl rfl rfl ?_
          refine ra_getI rfl lk_7_378 (Nat.zero_le _) (sh_D3 isD_1) rfl ?_
          refine ra_gen (fun z19 hz19 => ?_)
          exact ra_ireturn rfl rfl ⟨Or.inl (⟨_, hz19, rfl⟩), rfl⟩
        by_cases h20 : x0 = 7
        · refine ra_switch (t := 119) rfl hx0 ⟨by decide, by decide, by decide⟩ (Or.inl ⟨(7, 81), by rw [h20]; rfl, rfl⟩) ?_
          refine ra_load rfl rfl rfl rfl ?_
          refine ra_cIp (sp_79 isD_1) rfl (ct_79 rfl lk_7_335 (Or.inl rfl) (sh_D3 isD_1) (Nat.le_of_ble_eq_true rfl)) (fun z22 hz22 => ?_)
          exact ra_ireturn rfl rfl ⟨Or.inl (⟨_, hz22, rfl⟩), rfl⟩
        refine ra_switch (t := 124) rfl hx0 ⟨by decide, by decide, by decide⟩ (Or.inr ⟨ra_sw_none (by simp only [List.length]; omega), rfl⟩) ?_
        refine ra_load rfl rfl rfl rfl ?_
        refine ra_getBw rfl lk_7_351 (Nat.zero_le _) (sh_D3 isD_1) rfl (fun z23 hz23 => ?_)
        refine ra_ifeq rfl rfl (ra_in01 hz23) (fun h24 => ?_) (fun h24 => ?_)
        · refine ra_iconst rfl ?_
          exact ra_ireturn rfl rfl ⟨Or.inl (⟨_, (by first | omega | (unfold ra_in at *; omega)), rfl⟩), rfl⟩
        · refine ra_iconst rfl ?_
          refine ra_goto rfl rfl ?_
          exact ra_ireturn rfl rfl ⟨Or.inl (⟨_, (by first | omega | (unfold ra_in at *; omega)), rfl⟩), rfl⟩
      · refine ra_iconst rfl ?_
        exact ra_ireturn rfl rfl ⟨Or.inl (⟨_, (by first | omega | (unfold ra_in at *; omega)), rfl⟩), rfl⟩
    · exact ra_throw (E := "java/lang/IllegalArgumentException") rfl lk_7_128 (by decide +kernel) (fun _ => rfl) ⟨Or.inr ⟨_, by simp, rfl⟩, rfl⟩
theorem sp_164 {n : Nat} {f : Nat → Int32} {d : Nat} {x0 : Int} {σ : ra_V} (hx0 : ra_in x0) : ra_C (g_Gs n f) g_sh 0 (d + 6) 164 [.index (0), ra_I x0] σ (fun r s => rX ["java/lang/IllegalArgumentException"] rI r ∧ s = σ) := by
  refine ra_enter (nn := 3) mt_164 rfl (Nat.le_of_ble_eq_true rfl) rfl (fun _ => by omega) ?_
  refine ra_load rfl rfl rfl rfl ?_
  refine ra_iflt rfl rfl hx0 (fun h1 => ?_) (fun h1 => ?_)
  · exact ra_throw (E := "java/lang/IllegalArgumentException") rfl lk_7_128 (by decide +kernel) (fun _ => rfl) ⟨Or.inr ⟨_, by simp, rfl⟩, rfl⟩
  · refine ra_load rfl rfl rfl rfl ?_
    refine ra_iconst rfl ?_
    refine ra_icle rfl rfl hx0 (by first | omega | (unfold ra_in at *; omega)) (fun h2 => ?_) (fun h2 => ?_)
    · refine ra_load rfl rfl rfl rfl ?_
      refine ra_getR rfl lk_7_10 (Nat.zero_le _) sh_0 rfl ?_
      refine ra_getR rfl lk_7_331 (Nat.zero_le _) (sh_D isD_1) rfl ?_
      refine ra_store (L' := [_, _, _, _, _]) rfl rfl rfl (Nat.le_of_ble_eq_true rfl) rfl ?_
      refine ra_load rfl rfl rfl rfl ?_
      refine ra_cBp (sp_67 isD_1) rfl (ct_67 rfl lk_7_359 (Or.inl rfl) (sh_D3 isD_1) (Nat.le_of_ble_eq_true rfl)) (fun z4 hz4 => ?_)
      refine ra_ifne rfl rfl (ra_in01 hz4) (fun h5 => ?_) (fun h5 => ?_)
      · refine ra_load rfl rfl rfl rfl ?_
        refine ra_cIp (sp_78 isD_1) rfl (ct_78 rfl lk_7_383 (Or.inl rfl) (sh_D3 isD_1) (Nat.le_of_ble_eq_true rfl)) (fun z7 hz7 => ?_)
        refine ra_store (L' := [_, _, _, _, _]) rfl rfl rfl (Nat.le_of_ble_eq_true rfl) rfl ?_
        refine ra_load rfl rfl rfl rfl ?_
        refine ra_getBw rfl lk_7_351 (Nat.zero_le _) (sh_D3 isD_1) rfl (fun z8 hz8 => ?_)
        refine ra_ifeq rfl rfl (ra_in01 hz8) (fun h9 => ?_) (fun h9 => ?_)
        · refine ra_iconst rfl ?_
          refine ra_store (L' := [_, _, _, _, _]) rfl rfl rfl (Nat.le_of_ble_eq_true rfl) rfl ?_
          refine ra_load rfl rfl rfl rfl ?_
          by_cases h10 : x0 = 0
          · refine ra_lswitch (t := 88) rfl hx0 rfl rfl (Or.inl ⟨(0, 28), by rw [h10]; rfl, rfl⟩) ?_
            refine ra_load rfl rfl rfl rfl ?_
            exact ra_ireturn rfl rfl ⟨Or.inl (⟨_, hz7, rfl⟩), rfl⟩
          by_cases h11 : x0 = 1
          · refine ra_lswitch (t := 90) rfl hx0 rfl rfl (Or.inl ⟨(1, 30), by rw [h11]; rfl, rfl⟩) ?_
            refine ra_load rfl rfl rfl rfl ?_
            exact ra_ireturn rfl rfl ⟨Or.inl (⟨_, (by first | omega | (unfold ra_in at *; omega)), rfl⟩), rfl⟩
          refine ra_lswitch (t := 93) rfl hx0 rfl rfl (Or.inr ⟨by rw [List.find?_eq_none]; intro q hq; simp only [List.mem_cons, List.not_mem_nil, or_false] at hq; rcases hq with rfl | rfl <;> simp only [beq_iff_eq] <;> omega, rfl⟩) ?_
          refine ra_load rfl rfl rfl rfl ?_
          refine ra_getI rfl lk_7_389 (Nat.zero_le _) (sh_D3 isD_1) rfl ?_
          refine ra_gen (fun z12 hz12 => ?_)
          refine ra_load rfl rfl rfl rfl ?_
          refine ra_isub rfl ?_
          refine ra_gen (fun z13 hz13 => ?_)
          refine ra_load rfl rfl rfl rfl ?_
          refine ra_isub rfl ?_
          refine ra_gen (fun z14 hz14 => ?_)
          exact ra_ireturn rfl rfl ⟨Or.inl (⟨_, hz14, rfl⟩), rfl⟩
        · refine ra_load rfl rfl rfl rfl ?_
          refine ra_cIp (sp_73 isD_1) rfl (ct_73 rfl lk_7_386 (Or.inl rfl) (sh_D3 isD_1) (Nat.le_of_ble_eq_true rfl)) (fun z16 hz16 => ?_)
          refine ra_goto rfl rfl ?_
          refine ra_store (L' := [_, _, _, _, _]) rfl rfl rfl (Nat.le_of_ble_eq_true rfl) rfl ?_
          refine ra_load rfl rfl rfl rfl ?_
          by_cases h17 : x0 = 0
          · refine ra_lswitch (t := 88) rfl hx0 rfl rfl (Or.inl ⟨(0, 28), by rw [h17]; rfl, rfl⟩) ?_
            refine ra_load rfl rfl rfl rfl ?_
            exact ra_ireturn rfl rfl ⟨Or.inl (⟨_, hz7, rfl⟩), rfl⟩
          by_cases h18 : x0 = 1
          · refine ra_lswitch (t := 90) rfl hx0 rfl rfl (Or.inl ⟨(1, 30), by rw [h18]; rfl, rfl⟩) ?_
            refine ra_load rfl rfl rfl rfl ?_
            exact ra_ireturn rfl rfl ⟨Or.inl (⟨_, hz16, rfl⟩), rfl⟩
          refine ra_lswitch (t := 93) rfl hx0 rfl rfl (Or.inr ⟨by rw [List.find?_eq_none]; intro q hq; simp only [List.mem_cons, List.not_mem_nil, or_false] at hq; rcases hq with rfl | rfl <;> simp only [beq_iff_eq] <;> omega, rfl⟩) ?_
          refine ra_load rfl rfl rfl rfl ?_
          refine ra_getI rfl lk_7_389 (Nat.zero_le _) (sh_D3 isD_1) rfl ?_
          refine ra_gen (fun z19 hz19 => ?_)
          refine ra_load rfl rfl rfl rfl ?_
          refine ra_isub rfl ?_
          refine ra_gen (fun z20 hz20 => ?_)
          refine ra_load rfl rfl rfl rfl ?_
          refine ra_isub rfl ?_
          refine ra_gen (fun z21 hz21 => ?_)
          exact ra_ireturn rfl rfl ⟨Or.inl (⟨_, hz21, rfl⟩), rfl⟩
      · refine ra_iconst rfl ?_
        exact ra_ireturn rfl rfl ⟨Or.inl (⟨_, (by first | omega | (unfold ra_in at *; omega)), rfl⟩), rfl⟩
    · exact ra_throw (E := "java/lang/IllegalArgumentException") rfl lk_7_128 (by decide +kernel) (fun _ => rfl) ⟨Or.inr ⟨_, by simp, rfl⟩, rfl⟩
theorem sp_165 {n : Nat} {f : Nat → Int32} {d : Nat} {x0 : Int} {σ : ra_V} (hx0 : ra_in x0) : ra_C (g_Gs n f) g_sh 0 (d + 6) 165 [.index (0), ra_I x0] σ (fun r s => rX ["java/lang/IllegalArgumentException"] rI r ∧ s = σ) := by
  refine ra_enter (nn := 1) mt_165 rfl (Nat.le_of_ble_eq_true rfl) rfl (fun _ => by omega) ?_
  refine ra_load rfl rfl rfl rfl ?_
  refine ra_iflt rfl rfl hx0 (fun h1 => ?_) (fun h1 => ?_)
  · exact ra_throw (E := "java/lang/IllegalArgumentException") rfl lk_7_128 (by decide +kernel) (fun _ => rfl) ⟨Or.inr ⟨_, by simp, rfl⟩, rfl⟩
  · refine ra_load rfl rfl rfl rfl ?_
    refine ra_iconst rfl ?_
    refine ra_icle rfl rfl hx0 (by first | omega | (unfold ra_in at *; omega)) (fun h2 => ?_) (fun h2 => ?_)
    · refine ra_load rfl rfl rfl rfl ?_
      refine ra_getR rfl lk_7_10 (Nat.zero_le _) sh_0 rfl ?_
      refine ra_getR rfl lk_7_331 (Nat.zero_le _) (sh_D isD_1) rfl ?_
      refine ra_store (L' := [_, _, _]) rfl rfl rfl (Nat.le_of_ble_eq_true rfl) rfl ?_
      refine ra_load rfl rfl rfl rfl ?_
      refine ra_cBp (sp_67 isD_1) rfl (ct_67 rfl lk_7_359 (Or.inl rfl) (sh_D3 isD_1) (Nat.le_of_ble_eq_true rfl)) (fun z4 hz4 => ?_)
      refine ra_ifne rfl rfl (ra_in01 hz4) (fun h5 => ?_) (fun h5 => ?_)
      · refine ra_load rfl rfl rfl rfl ?_
        by_cases h6 : x0 = 0
        · refine ra_switch (t := 64) rfl hx0 ⟨by decide, by decide, by decide⟩ (Or.inl ⟨(0, 27), by rw [h6]; rfl, rfl⟩) ?_
          refine ra_load rfl rfl rfl rfl ?_
          refine ra_cIp (sp_74 isD_1) rfl (ct_74 rfl lk_7_390 (Or.inl rfl) (sh_D3 isD_1) (Nat.le_of_ble_eq_true rfl)) (fun z8 hz8 => ?_)
          exact ra_ireturn rfl rfl ⟨Or.inl (⟨_, hz8, rfl⟩), rfl⟩
        by_cases h9 : x0 = 1
        · refine ra_switch (t := 69) rfl hx0 ⟨by decide, by decide, by decide⟩ (Or.inl ⟨(1, 32), by rw [h9]; rfl, rfl⟩) ?_
          refine ra_load rfl rfl rfl rfl ?_
          refine ra_cIp (sp_71 isD_1) rfl (ct_71 rfl lk_7_393 (Or.inl rfl) (sh_D3 isD_1) (Nat.le_of_ble_eq_true rfl)) (fun z11 hz11 => ?_)
          exact ra_ireturn rfl rfl ⟨Or.inl (⟨_, hz11, rfl⟩), rfl⟩
        by_cases h12 : x0 = 2
        · refine ra_switch (t := 74) rfl hx0 ⟨by decide, by decide, by decide⟩ (Or.inl ⟨(2, 37), by rw [h12]; rfl, rfl⟩) ?_
          refine ra_load rfl rfl rfl rfl ?_
          refine ra_cIp (sp_72 isD_1) rfl (ct_72 rfl lk_7_396 (Or.inl rfl) (sh_D3 isD_1) (Nat.le_of_ble_eq_true rfl)) (fun z14 hz14 => ?_)
          exact ra_ireturn rfl rfl ⟨Or.inl (⟨_, hz14, rfl⟩), rfl⟩
        refine ra_switch (t := 79) rfl hx0 ⟨by decide, by decide, by decide⟩ (Or.inr ⟨ra_sw_none (by simp only [List.length]; omega), rfl⟩) ?_
        refine ra_load rfl rfl rfl rfl ?_
        refine ra_cIp (sp_73 isD_1) rfl (ct_73 rfl lk_7_386 (Or.inl rfl) (sh_D3 isD_1) (Nat.le_of_ble_eq_true rfl)) (fun z16 hz16 => ?_)
        exact ra_ireturn rfl rfl ⟨Or.inl (⟨_, hz16, rfl⟩), rfl⟩
      · refine ra_iconst rfl ?_
        exact ra_ireturn rfl rfl ⟨Or.inl (⟨_, (by first | omega | (unfold ra_in at *; omega)), rfl⟩), rfl⟩
    · exact ra_throw (E := "java/lang/IllegalArgumentException") rfl lk_7_128 (by decide +kernel) (fun _ => rfl) ⟨Or.inr ⟨_, by simp, rfl⟩, rfl⟩
theorem sp_166 {n : Nat} {f : Nat → Int32} {d : Nat} {x0 : Int} {x1 : Int} {σ : ra_V} (hx0 : ra_in x0) (hx1 : x1 = 0 ∨ x1 = 1) : ra_C (g_Gs n f) g_sh 0 (d + 5) 166 [.index (0), ra_I x0, ra_I x1] σ (fun r s => rI r ∧ s = σ) := by
  refine ra_enter (nn := 2) mt_166 rfl (Nat.le_of_ble_eq_true rfl) rfl (fun h => absurd h (by decide +kernel)) ?_
  refine ra_load rfl rfl rfl rfl ?_
  refine ra_getR rfl lk_7_10 (Nat.zero_le _) sh_0 rfl ?_
  refine ra_getR rfl lk_7_331 (Nat.zero_le _) (sh_D isD_1) rfl ?_
  refine ra_store (L' := [_, _, _, _, _]) rfl rfl rfl (Nat.le_of_ble_eq_true rfl) rfl ?_
  refine ra_load rfl rfl rfl rfl ?_
  refine ra_cBp (sp_67 isD_1) rfl (ct_67 rfl lk_7_359 (Or.inl rfl) (sh_D3 isD_1) (Nat.le_of_ble_eq_true rfl)) (fun z2 hz2 => ?_)
  refine ra_ifeq rfl rfl (ra_in01 hz2) (fun h3 => ?_) (fun h3 => ?_)
  · refine ra_iconst rfl ?_
    exact ra_ireturn rfl rfl ⟨⟨_, (by first | omega | (unfold ra_in at *; omega)), rfl⟩, rfl⟩
  · refine ra_load rfl rfl rfl rfl ?_
    refine ra_iflt rfl rfl hx0 (fun h4 => ?_) (fun h4 => ?_)
    · refine ra_iconst rfl ?_
      exact ra_ireturn rfl rfl ⟨⟨_, (by first | omega | (unfold ra_in at *; omega)), rfl⟩, rfl⟩
    · refine ra_load rfl rfl rfl rfl ?_
      refine ra_load rfl rfl rfl rfl ?_
      refine ra_cIp (sp_73 isD_1) rfl (ct_73 rfl lk_7_386 (Or.inl rfl) (sh_D3 isD_1) (Nat.le_of_ble_eq_true rfl)) (fun z6 hz6 => ?_)
      refine ra_iclt rfl rfl hx0 hz6 (fun h7 => ?_) (fun h7 => ?_)
      · refine ra_load rfl rfl rfl rfl ?_
        refine ra_cIp (sp_72 isD_1) rfl (ct_72 rfl lk_7_396 (Or.inl rfl) (sh_D3 isD_1) (Nat.le_of_ble_eq_true rfl)) (fun z9 hz9 => ?_)
        refine ra_load rfl rfl rfl rfl ?_
        refine ra_iadd rfl ?_
        refine ra_gen (fun z10 hz10 => ?_)
        refine ra_store (L' := [_, _, _, _, _]) rfl rfl rfl (Nat.le_of_ble_eq_true rfl) rfl ?_
        refine ra_load rfl rfl rfl rfl ?_
        refine ra_ifeq rfl rfl (ra_in01 hx1) (fun h11 => ?_) (fun h11 => ?_)
        · refine ra_load rfl rfl rfl rfl ?_
          refine ra_load rfl rfl rfl rfl ?_
          refine ra_cIp (sp_75 isD_1 hz10) rfl (ct_75 rfl lk_7_402 (Or.inl rfl) (sh_D3 isD_1) (Nat.le_of_ble_eq_true rfl)) (fun z13 hz13 => ?_)
          exact ra_ireturn rfl rfl ⟨⟨_, hz13, rfl⟩, rfl⟩
        · refine ra_load rfl rfl rfl rfl ?_
          refine ra_load rfl rfl rfl rfl ?_
          refine ra_cIp (sp_76 isD_1 hz10) rfl (ct_76 rfl lk_7_399 (Or.inl rfl) (sh_D3 isD_1) (Nat.le_of_ble_eq_true rfl)) (fun z15 hz15 => ?_)
          refine ra_goto rfl rfl ?_
          exact ra_ireturn rfl rfl ⟨⟨_, hz15, rfl⟩, rfl⟩
      · refine ra_iconst rfl ?_
        exact ra_ireturn rfl rfl ⟨⟨_, (by first | omega | (unfold ra_in at *; omega)), rfl⟩, rfl⟩
theorem sp_171 {n : Nat} {f : Nat → Int32} {d : Nat} {x0 : Int} {σ : ra_V} (hx0 : ra_in x0) : ra_C (g_Gs n f) g_sh 0 (d + 2) 171 [.index (0), ra_I x0] σ (fun r s => rI r ∧ s = σ) := by
  refine ra_enter (nn := 0) mt_171 rfl (Nat.le_of_ble_eq_true rfl) rfl (fun h => absurd h (by decide +kernel)) ?_
  refine ra_load rfl rfl rfl rfl ?_
  refine ra_getR rfl lk_7_46 (Nat.zero_le _) sh_0 rfl ?_
  refine ra_load rfl rfl rfl rfl ?_
  refine ra_cIp (sp_89 hx0) rfl (ct_89 rfl lk_7_429 (Or.inl rfl) sh_177 (Nat.le_of_ble_eq_true rfl)) (fun z2 hz2 => ?_)
  exact ra_ireturn rfl rfl ⟨⟨_, hz2, rfl⟩, rfl⟩
theorem lp_170_18 {n : Nat} {f : Nat → Int32} {d : Nat}  {σ : ra_V}  : ∀ (nn : Nat) (t1 : Jvm.Term) (v2 : Int) (s : ra_V) (ht1 : t1 = .null ∨ ∃ i, i < 8 ∧ t1 = .index (1 + 5 + i)) (hv2_0 : 0 ≤ v2) (hv2_1 : v2 ≤ 8) (hF : Fr (177) (179) σ s) (hm : ((8 - v2 : Int)).toNat < nn), ra_P (g_Gs n f) g_sh 0 (d + 3) g_m_X7_printDisk 18 [some (.index (0)), some (t1), some (ra_I v2)] [] s (fun r s => rI r ∧ Fr (177) (179) σ s) := by
  intro nn
  induction nn with
  | zero => intro t1 v2 s ht1 hv2_0 hv2_1 hF hm; exact absurd hm (Nat.not_lt_zero _)
  | succ nn ih =>
    intro t1 v2 s ht1 hv2_0 hv2_1 hF hm
    rcases ht1 with rfl | ⟨p1, hp1, rfl⟩
    · refine ra_load rfl rfl rfl rfl ?_
      refine ra_bipush rfl (by decide) ?_
      refine ra_icge rfl rfl (by first | omega | (unfold ra_in at *; omega)) (by first | omega | (unfold ra_in at *; omega)) (fun h5 => ?_) (fun h5 => ?_)
      · refine ra_load rfl rfl rfl rfl ?_
        refine ra_getR rfl lk_7_46 (Nat.zero_le _) sh_0 rfl ?_
        refine ra_getI rfl lk_7_428 (Nat.zero_le _) sh_177 rfl ?_
        refine ra_gen (fun z6 hz6 => ?_)
        exact ra_ireturn rfl rfl ⟨⟨_, hz6, rfl⟩, hF⟩
      · refine ra_load rfl rfl rfl rfl ?_
        refine ra_nullT rfl rfl ?_
        refine ra_load rfl rfl rfl rfl ?_
        refine ra_getR rfl lk_7_46 (Nat.zero_le _) sh_0 rfl ?_
        refine ra_getI rfl lk_7_428 (Nat.zero_le _) sh_177 rfl ?_
        refine ra_gen (fun z7 hz7 => ?_)
        exact ra_ireturn rfl rfl ⟨⟨_, hz7, rfl⟩, hF⟩
    · refine ra_load rfl rfl rfl rfl ?_
      refine ra_bipush rfl (by decide) ?_
      refine ra_icge rfl rfl (by first | omega | (unfold ra_in at *; omega)) (by first | omega | (unfold ra_in at *; omega)) (fun h8 => ?_) (fun h8 => ?_)
      · refine ra_load rfl rfl rfl rfl ?_
        refine ra_getR rfl lk_7_46 (Nat.zero_le _) sh_0 rfl ?_
        refine ra_getI rfl lk_7_428 (Nat.zero_le _) sh_177 rfl ?_
        refine ra_gen (fun z9 hz9 => ?_)
        exact ra_ireturn rfl rfl ⟨⟨_, hz9, rfl⟩, hF⟩
      · refine ra_load rfl rfl rfl rfl ?_
        refine ra_nullF rfl rfl ?_
        refine ra_load rfl rfl rfl rfl ?_
        refine ra_ifle rfl rfl (by first | omega | (unfold ra_in at *; omega)) (fun h10 => ?_) (fun h10 => ?_)
        · refine ra_load rfl rfl rfl rfl ?_
          refine ra_getR rfl lk_7_46 (Nat.zero_le _) sh_0 rfl ?_
          refine ra_load rfl rfl rfl rfl ?_
          refine ra_load rfl rfl rfl rfl ?_
          refine ra_getR rfl lk_7_10 (Nat.zero_le _) sh_0 rfl ?_
          refine ra_load rfl rfl rfl rfl ?_
          refine ra_cBp (sp_7 isD_1 hp1) rfl (ct_7 rfl lk_7_421 (Or.inl rfl) (sh_D isD_1) (Nat.le_of_ble_eq_true rfl)) (fun z12 hz12 => ?_)
          refine ra_cV (sp_88 isD_1 hp1 hz12) rfl (ct_88 rfl lk_7_424 (Or.inl rfl) sh_177 (Nat.le_of_ble_eq_true rfl)) (fun s13 hs13 => ?_)
          have hF14 := Fr_tr (lo := 177) (hi := 179) hF hs13 (by omega)
          refine ra_load rfl rfl rfl rfl ?_
          refine ra_getR rfl lk_7_10 (Nat.zero_le _) sh_0 rfl ?_
          refine ra_load rfl rfl rfl rfl ?_
          refine ra_getI rfl lk_7_139 (Nat.zero_le _) (sh_P isD_1 hp1) rfl ?_
          refine ra_gen (fun z15 hz15 => ?_)
          refine ra_cPp (sp_6 isD_1 hz15) rfl (ct_6 rfl lk_7_187 (Or.inl rfl) (sh_D isD_1) (Nat.le_of_ble_eq_true rfl)) ?_ (fun j17 hj17 => ?_)
          · refine ra_store (L' := [_, _, _]) rfl rfl rfl (Nat.le_of_ble_eq_true rfl) rfl ?_
            refine ra_iinc (L' := [_, _, _]) rfl rfl (Nat.le_of_ble_eq_true rfl) rfl ?_
            refine ra_goto rfl rfl ?_
            exact ra_weak (by repeat' constructor) (ih _ (v2 + 1) s13 (Or.inl rfl) (by first | omega | (unfold ra_in at *; omega)) (by first | omega | (unfold ra_in at *; omega)) hF14 (by first | omega | (unfold ra_in at *; omega)))
          · refine ra_store (L' := [_, _, _]) rfl rfl rfl (Nat.le_of_ble_eq_true rfl) rfl ?_
            refine ra_iinc (L' := [_, _, _]) rfl rfl (Nat.le_of_ble_eq_true rfl) rfl ?_
            refine ra_goto rfl rfl ?_
            exact ra_weak (by repeat' constructor) (ih _ (v2 + 1) s13 (Or.inr ⟨_, hj17, rfl⟩) (by first | omega | (unfold ra_in at *; omega)) (by first | omega | (unfold ra_in at *; omega)) hF14 (by first | omega | (unfold ra_in at *; omega)))
        · refine ra_load rfl rfl rfl rfl ?_
          refine ra_getR rfl lk_7_46 (Nat.zero_le _) sh_0 rfl ?_
          refine ra_bipush rfl (by decide) ?_
          refine ra_cV (sp_86 (by first | omega | (unfold ra_in at *; omega))) rfl (ct_86 rfl lk_7_418 (Or.inl rfl) sh_177 (Nat.le_of_ble_eq_true rfl)) (fun s18 hs18 => ?_)
          have hF19 := Fr_tr (lo := 177) (hi := 179) hF hs18 (by omega)
          refine ra_load rfl rfl rfl rfl ?_
          refine ra_getR rfl lk_7_46 (Nat.zero_le _) sh_0 rfl ?_
          refine ra_load rfl rfl rfl rfl ?_
          refine ra_load rfl rfl rfl rfl ?_
          refine ra_getR rfl lk_7_10 (Nat.zero_le _) sh_0 rfl ?_
          refine ra_load rfl rfl rfl rfl ?_
          refine ra_cBp (sp_7 isD_1 hp1) rfl (ct_7 rfl lk_7_421 (Or.inl rfl) (sh_D isD_1) (Nat.le_of_ble_eq_true rfl)) (fun z21 hz21 => ?_)
          refine ra_cV (sp_88 isD_1 hp1 hz21) rfl (ct_88 rfl lk_7_424 (Or.inl rfl) sh_177 (Nat.le_of_ble_eq_true rfl)) (fun s22 hs22 => ?_)
          have hF23 := Fr_tr (lo := 177) (hi := 179) hF19 hs22 (by omega)
          refine ra_load rfl rfl rfl rfl ?_
          refine ra_getR rfl lk_7_10 (Nat.zero_le _) sh_0 rfl ?_
          refine ra_load rfl rfl rfl rfl ?_
          refine ra_getI rfl lk_7_139 (Nat.zero_le _) (sh_P isD_1 hp1) rfl ?_
          refine ra_gen (fun z24 hz24 => ?_)
          refine ra_cPp (sp_6 isD_1 hz24) rfl (ct_6 rfl lk_7_187 (Or.inl rfl) (sh_D isD_1) (Nat.le_of_ble_eq_true rfl)) ?_ (fun j26 hj26 => ?_)
          · refine ra_store (L' := [_, _, _]) rfl rfl rfl (Nat.le_of_ble_eq_true rfl) rfl ?_
            refine ra_iinc (L' := [_, _, _]) rfl rfl (Nat.le_of_ble_eq_true rfl) rfl ?_
            refine ra_goto rfl rfl ?_
            exact ra_weak (by repeat' constructor) (ih _ (v2 + 1) s22 (Or.inl rfl) (by first | omega | (unfold ra_in at *; omega)) (by first | omega | (unfold ra_in at *; omega)) hF23 (by first | omega | (unfold ra_in at *; omega)))
          · refine ra_store (L' := [_, _, _]) rfl rfl rfl (Nat.le_of_ble_eq_true rfl) rfl ?_
            refine ra_iinc (L' := [_, _, _]) rfl rfl (Nat.le_of_ble_eq_true rfl) rfl ?_
            refine ra_goto rfl rfl ?_
            exact ra_weak (by repeat' constructor) (ih _ (v2 + 1) s22 (Or.inr ⟨_, hj26, rfl⟩) (by first | omega | (unfold ra_in at *; omega)) (by first | omega | (unfold ra_in at *; omega)) hF23 (by first | omega | (unfold ra_in at *; omega)))
theorem sp_170 {n : Nat} {f : Nat → Int32} {d : Nat}  {σ : ra_V}  : ra_C (g_Gs n f) g_sh 0 (d + 4) 170 [.index (0)] σ (fun r s => rI r ∧ Fr (177) (179) σ s) := by
  refine ra_enter (nn := 2) mt_170 rfl (Nat.le_of_ble_eq_true rfl) rfl (fun h => absurd h (by decide +kernel)) ?_
  refine ra_load rfl rfl rfl rfl ?_
  refine ra_getR rfl lk_7_46 (Nat.zero_le _) sh_0 rfl ?_
  refine ra_cV (sp_85 ) rfl (ct_85 rfl lk_7_80 (Or.inl rfl) sh_177 (Nat.le_of_ble_eq_true rfl)) (fun s1 hs1 => ?_)
  have hF2 := Fr_tr (lo := 177) (hi := 179) Fr_rf hs1 (by omega)
  refine ra_load rfl rfl rfl rfl ?_
  refine ra_getR rfl lk_7_10 (Nat.zero_le _) sh_0 rfl ?_
  refine ra_iconst rfl ?_
  refine ra_cPp (sp_6 isD_1 (by first | omega | (unfold ra_in at *; omega))) rfl (ct_6 rfl lk_7_187 (Or.inl rfl) (sh_D isD_1) (Nat.le_of_ble_eq_true rfl)) ?_ (fun j4 hj4 => ?_)
  · refine ra_store (L' := [_, _, _]) rfl rfl rfl (Nat.le_of_ble_eq_true rfl) rfl ?_
    refine ra_iconst rfl ?_
    refine ra_store (L' := [_, _, _]) rfl rfl rfl (Nat.le_of_ble_eq_true rfl) rfl ?_
    exact ra_weak (by repeat' constructor) (lp_170_18  _ _ (0) s1 (Or.inl rfl) (by first | omega | (unfold ra_in at *; omega)) (by first | omega | (unfold ra_in at *; omega)) hF2 (Nat.lt_succ_self _))
  · refine ra_store (L' := [_, _, _]) rfl rfl rfl (Nat.le_of_ble_eq_true rfl) rfl ?_
    refine ra_iconst rfl ?_
    refine ra_store (L' := [_, _, _]) rfl rfl rfl (Nat.le_of_ble_eq_true rfl) rfl ?_
    exact ra_weak (by repeat' constructor) (lp_170_18  _ _ (0) s1 (Or.inr ⟨_, hj4, rfl⟩) (by first | omega | (unfold ra_in at *; omega)) (by first | omega | (unfold ra_in at *; omega)) hF2 (Nat.lt_succ_self _))
end CW
