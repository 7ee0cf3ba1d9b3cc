section
/-! the class: what its methods do, told weakly (printed by wip/gen/cls.py) -/
section CW
theorem sp_140 {n : Nat} {f : Nat → Int32} {d : Nat} {x0 : Int} {x1 : Int} {x2 : Int} {x3 : Int} {σ : ra_V} (hx0 : ra_in x0) (hx1 : ra_in x1) (hx2 : ra_in x2) (hx3 : ra_in x3) (hci : CI σ) : ra_C (g_Gs n f) g_sh 0 (d + 7) 140 [.index (0), ra_I x0, ra_I x1, ra_I x2, ra_I x3] σ (fun r s => rX ["java/lang/IllegalArgumentException", "java/lang/IllegalStateException"] rI r ∧ Fr (0) (175) σ s ∧ CI s) := by
  refine ra_enter (nn := 0) mt_140 rfl (Nat.le_of_ble_eq_true rfl) rfl (fun _ => by omega) ?_
  refine ra_load rfl rfl rfl rfl ?_
  refine ra_load rfl rfl rfl rfl ?_
  refine ra_load rfl rfl rfl rfl ?_
  refine ra_load rfl rfl rfl rfl ?_
  refine ra_cXVp (sp_178 hx2 hx3 hx1) rfl (ct_178 rfl lk_7_251 (Or.inl rfl) sh_0 (Nat.le_of_ble_eq_true rfl)) rfl ?_ (fun E hE => ⟨Or.inr ⟨E, (show ∀ E ∈ (["java/lang/IllegalArgumentException"] : List String), E ∈ (["java/lang/IllegalArgumentException", "java/lang/IllegalStateException"] : List String) by decide) E hE, rfl⟩, ⟨Fr_rf, hci⟩⟩)
  refine ra_load rfl rfl rfl rfl ?_
  refine ra_getR rfl lk_7_10 (Nat.zero_le _) sh_0 rfl ?_
  refine ra_load rfl rfl rfl rfl ?_
  refine ra_load rfl rfl rfl rfl ?_
  refine ra_cIp (sp_16 isD_1 hx0 hx1) rfl (ct_16 rfl lk_7_248 (Or.inl rfl) (sh_D isD_1) (Nat.le_of_ble_eq_true rfl)) (fun z3 hz3 => ?_)
  refine ra_ifeq rfl rfl hz3 (fun h4 => ?_) (fun h4 => ?_)
  · refine ra_load rfl rfl rfl rfl ?_
    refine ra_cXVp (sp_180 ) rfl (ct_180 rfl lk_7_257 (Or.inl rfl) sh_0 (Nat.le_of_ble_eq_true rfl)) rfl ?_ (fun E hE => ⟨Or.inr ⟨E, (show ∀ E ∈ (["java/lang/IllegalStateException"] : List String), E ∈ (["java/lang/IllegalArgumentException", "java/lang/IllegalStateException"] : List String) by decide) E hE, rfl⟩, ⟨Fr_rf, hci⟩⟩)
    refine ra_load rfl rfl rfl rfl ?_
    refine ra_getR rfl lk_7_25 (Nat.zero_le _) sh_0 rfl ?_
    refine ra_load rfl rfl rfl rfl ?_
    refine ra_getR rfl lk_7_10 (Nat.zero_le _) sh_0 rfl ?_
    refine ra_cV (sp_62 isD_1 hci) rfl (ct_62 rfl lk_7_260 (Or.inl rfl) sh_40 (Nat.le_of_ble_eq_true rfl)) (fun s6 hs6 => ?_)
    obtain ⟨hf7, he8⟩ := hs6
    have hF9 := Fr_tr (lo := 0) (hi := 175) Fr_rf hf7 (by omega)
    have hci10 : CI s6 := he8
    refine ra_load rfl rfl rfl rfl ?_
    refine ra_getR rfl lk_7_10 (Nat.zero_le _) sh_0 rfl ?_
    refine ra_load rfl rfl rfl rfl ?_
    refine ra_load rfl rfl rfl rfl ?_
    refine ra_load rfl rfl rfl rfl ?_
    refine ra_load rfl rfl rfl rfl ?_
    refine ra_cI (sp_33 isD_1 hx0 hx1 hx2 hx3) rfl (ct_33 rfl lk_7_263 (Or.inl rfl) (sh_D isD_1) (Nat.le_of_ble_eq_true rfl)) (fun z12 s11  hz12 hs11 => ?_)
    have hF13 := Fr_tr (lo := 0) (hi := 175) hF9 hs11 (by omega)
    have hci14 : CI s11 := CI_fr hci10 hs11 (by omega)
    exact ra_ireturn rfl rfl ⟨Or.inl (⟨_, hz12, rfl⟩), ⟨hF13, hci14⟩⟩
  · exact ra_throw (E := "java/lang/IllegalArgumentException") rfl lk_7_128 (by decide +kernel) (fun _ => rfl) ⟨Or.inr ⟨_, by simp, rfl⟩, ⟨Fr_rf, hci⟩⟩
theorem sp_141 {n : Nat} {f : Nat → Int32} {d : Nat} {x0 : Int} {x1 : Int} {x2 : Int} {x3 : Int} {σ : ra_V} (hx0 : ra_in x0) (hx1 : ra_in x1) (hx2 : ra_in x2) (hx3 : ra_in x3) (hci : CI σ) : ra_C (g_Gs n f) g_sh 0 (d + 7) 141 [.index (0), ra_I x0, ra_I x1, ra_I x2, ra_I x3] σ (fun r s => rX ["java/lang/IllegalArgumentException", "java/lang/IllegalStateException"] rI r ∧ Fr (0) (175) σ s ∧ CI s) := by
  refine ra_enter (nn := 1) mt_141 rfl (Nat.le_of_ble_eq_true rfl) rfl (fun _ => by omega) ?_
  refine ra_load rfl rfl rfl rfl ?_
  refine ra_load rfl rfl rfl rfl ?_
  refine ra_load rfl rfl rfl rfl ?_
  refine ra_load rfl rfl rfl rfl ?_
  refine ra_cXVp (sp_178 hx1 hx2 hx0) rfl (ct_178 rfl lk_7_251 (Or.inl rfl) sh_0 (Nat.le_of_ble_eq_true rfl)) rfl ?_ (fun E hE => ⟨Or.inr ⟨E, (show ∀ E ∈ (["java/lang/IllegalArgumentException"] : List String), E ∈ (["java/lang/IllegalArgumentException", "java/lang/IllegalStateException"] : List String) by decide) E hE, rfl⟩, ⟨Fr_rf, hci⟩⟩)
  refine ra_load rfl rfl rfl rfl ?_
  refine ra_load rfl rfl rfl rfl ?_
  refine ra_cXVp (sp_179 hx3) rfl (ct_179 rfl lk_7_235 (Or.inl rfl) sh_0 (Nat.le_of_ble_eq_true rfl)) rfl ?_ (fun E hE => ⟨Or.inr ⟨E, (show ∀ E ∈ (["java/lang/IllegalArgumentException"] : List String), E ∈ (["java/lang/IllegalArgumentException", "java/lang/IllegalStateException"] : List String) by decide) E hE, rfl⟩, ⟨Fr_rf, hci⟩⟩)
  refine ra_load rfl rfl rfl rfl ?_
  refine ra_cXVp (sp_180 ) rfl (ct_180 rfl lk_7_257 (Or.inl rfl) sh_0 (Nat.le_of_ble_eq_true rfl)) rfl ?_ (fun E hE => ⟨Or.inr ⟨E, (show ∀ E ∈ (["java/lang/IllegalStateException"] : List String), E ∈ (["java/lang/IllegalArgumentException", "java/lang/IllegalStateException"] : List String) by decide) E hE, rfl⟩, ⟨Fr_rf, hci⟩⟩)
  refine ra_load rfl rfl rfl rfl ?_
  refine ra_cR (sp_175 ) rfl (ct_175 rfl lk_7_106 (Or.inl rfl) sh_0 (Nat.le_of_ble_eq_true rfl)) (fun s4 hs4 => ?_)
  have hF5 := Fr_tr (lo := 0) (hi := 175) Fr_rf hs4 (by omega)
  have hci6 : CI s4 := CI_fr hci hs4 (by omega)
  refine ra_load rfl rfl rfl rfl ?_
  refine ra_load rfl rfl rfl rfl ?_
  refine ra_cIp (sp_59 hx0 hx3) rfl (ct_59 rfl lk_7_238 (Or.inl rfl) sh_172 (Nat.le_of_ble_eq_true rfl)) (fun z8 hz8 => ?_)
  refine ra_store (L' := [_, _, _, _, _, _]) rfl rfl rfl (Nat.le_of_ble_eq_true rfl) rfl ?_
  refine ra_load rfl rfl rfl rfl ?_
  refine ra_ifge rfl rfl hz8 (fun h9 => ?_) (fun h9 => ?_)
  · refine ra_load rfl rfl rfl rfl ?_
    refine ra_getR rfl lk_7_25 (Nat.zero_le _) sh_0 rfl ?_
    refine ra_load rfl rfl rfl rfl ?_
    refine ra_getR rfl lk_7_10 (Nat.zero_le _) sh_0 rfl ?_
    refine ra_cV (sp_62 isD_1 hci6) rfl (ct_62 rfl lk_7_260 (Or.inl rfl) sh_40 (Nat.le_of_ble_eq_true rfl)) (fun s10 hs10 => ?_)
    obtain ⟨hf11, he12⟩ := hs10
    have hF13 := Fr_tr (lo := 0) (hi := 175) hF5 hf11 (by omega)
    have hci14 : CI s10 := he12
    refine ra_load rfl rfl rfl rfl ?_
    refine ra_getR rfl lk_7_10 (Nat.zero_le _) sh_0 rfl ?_
    refine ra_load rfl rfl rfl rfl ?_
    refine ra_load rfl rfl rfl rfl ?_
    refine ra_load rfl rfl rfl rfl ?_
    refine ra_load rfl rfl rfl rfl ?_
    refine ra_cI (sp_33 isD_1 hz8 hx0 hx1 hx2) rfl (ct_33 rfl lk_7_263 (Or.inl rfl) (sh_D isD_1) (Nat.le_of_ble_eq_true rfl)) (fun z16 s15  hz16 hs15 => ?_)
    have hF17 := Fr_tr (lo := 0) (hi := 175) hF13 hs15 (by omega)
    have hci18 : CI s15 := CI_fr hci14 hs15 (by omega)
    exact ra_ireturn rfl rfl ⟨Or.inl (⟨_, hz16, rfl⟩), ⟨hF17, hci18⟩⟩
  · exact ra_throw (E := "java/lang/IllegalStateException") rfl lk_7_267 (by decide +kernel) (fun _ => rfl) ⟨Or.inr ⟨_, by simp, rfl⟩, ⟨hF5, hci6⟩⟩
theorem sp_142 {n : Nat} {f : Nat → Int32} {d : Nat} {x0 : Int} {σ : ra_V} (hx0 : ra_in x0) (hci : CI σ) : ra_C (g_Gs n f) g_sh 0 (d + 7) 142 [.index (0), ra_I x0] σ (fun r s => rX ["java/lang/IllegalStateException", "java/util/NoSuchElementException"] rI r ∧ Fr (0) (175) σ s ∧ CI s) := by
  refine ra_enter (nn := 2) mt_142 rfl (Nat.le_of_ble_eq_true rfl) rfl (fun h => absurd h (by decide +kernel)) ?_
  refine ra_load rfl rfl rfl rfl ?_
  refine ra_load rfl rfl rfl rfl ?_
  refine ra_cXNp (sp_176 hx0) rfl (ct_176 rfl lk_7_135 (Or.inl rfl) sh_0 (Nat.le_of_ble_eq_true rfl)) rfl (fun j2 hj2 => ?_) (fun E hE => ⟨Or.inr ⟨E, (show ∀ E ∈ (["java/util/NoSuchElementException"] : List String), E ∈ (["java/lang/IllegalStateException", "java/util/NoSuchElementException"] : List String) by decide) E hE, rfl⟩, ⟨Fr_rf, hci⟩⟩)
  refine ra_store (L' := [_, _, _, _]) rfl rfl rfl (Nat.le_of_ble_eq_true rfl) rfl ?_
  refine ra_load rfl rfl rfl rfl ?_
  refine ra_load rfl rfl rfl rfl ?_
  refine ra_cXVp (sp_181 hj2) rfl (ct_181 rfl lk_7_272 (Or.inl rfl) sh_0 (Nat.le_of_ble_eq_true rfl)) rfl ?_ (fun E hE => ⟨Or.inr ⟨E, (show ∀ E ∈ (["java/lang/IllegalStateException"] : List String), E ∈ (["java/lang/IllegalStateException", "java/util/NoSuchElementException"] : List String) by decide) E hE, rfl⟩, ⟨Fr_rf, hci⟩⟩)
  refine ra_load rfl rfl rfl rfl ?_
  refine ra_getR rfl lk_7_25 (Nat.zero_le _) sh_0 rfl ?_
  refine ra_load rfl rfl rfl rfl ?_
  refine ra_getR rfl lk_7_10 (Nat.zero_le _) sh_0 rfl ?_
  refine ra_cV (sp_62 isD_1 hci) rfl (ct_62 rfl lk_7_260 (Or.inl rfl) sh_40 (Nat.le_of_ble_eq_true rfl)) (fun s4 hs4 => ?_)
  obtain ⟨hf5, he6⟩ := hs4
  have hF7 := Fr_tr (lo := 0) (hi := 175) Fr_rf hf5 (by omega)
  have hci8 : CI s4 := he6
  refine ra_load rfl rfl rfl rfl ?_
  refine ra_getI rfl lk_7_144 (Nat.zero_le _) (sh_P isD_1 hj2) rfl ?_
  refine ra_gen (fun z9 hz9 => ?_)
  refine ra_store (L' := [_, _, _, _]) rfl rfl rfl (Nat.le_of_ble_eq_true rfl) rfl ?_
  refine ra_load rfl rfl rfl rfl ?_
  refine ra_iconst rfl ?_
  refine ra_putI rfl lk_7_144 (Nat.zero_le _) (sh_P isD_1 hj2) rfl rfl ?_
  refine ra_new Fr_up (fun s10 hs10 => ?_)
  have hF11 := Fr_tr (lo := 0) (hi := 175) hF7 hs10 (by omega)
  have hci12 : CI s10 := CI_fr hci8 hs10 (by omega)
  refine ra_load rfl rfl rfl rfl ?_
  exact ra_ireturn rfl rfl ⟨Or.inl (⟨_, hz9, rfl⟩), ⟨hF11, hci12⟩⟩
theorem sp_143 {n : Nat} {f : Nat → Int32} {d : Nat} {x0 : Int} {x1 : Int} {σ : ra_V} (hx0 : ra_in x0) (hx1 : x1 = 0 ∨ x1 = 1) (hci : CI σ) : ra_C (g_Gs n f) g_sh 0 (d + 7) 143 [.index (0), ra_I x0, ra_I x1] σ (fun r s => rX ["java/util/NoSuchElementException"] rB r ∧ Fr (0) (175) σ s ∧ CI s) := by
  refine ra_enter (nn := 2) mt_143 rfl (Nat.le_of_ble_eq_true rfl) rfl (fun h => absurd h (by decide +kernel)) ?_
  refine ra_load rfl rfl rfl rfl ?_
  refine ra_load rfl rfl rfl rfl ?_
  refine ra_cXNp (sp_176 hx0) rfl (ct_176 rfl lk_7_135 (Or.inl rfl) sh_0 (Nat.le_of_ble_eq_true rfl)) rfl (fun j2 hj2 => ?_) (fun E hE => ⟨Or.inr ⟨E, (show ∀ E ∈ (["java/util/NoSuchElementException"] : List String), E ∈ (["java/util/NoSuchElementException"] : List String) by decide) E hE, rfl⟩, ⟨Fr_rf, hci⟩⟩)
  refine ra_store (L' := [_, _, _, _, _]) rfl rfl rfl (Nat.le_of_ble_eq_true rfl) rfl ?_
  refine ra_load rfl rfl rfl rfl ?_
  refine ra_getR rfl lk_7_25 (Nat.zero_le _) sh_0 rfl ?_
  refine ra_load rfl rfl rfl rfl ?_
  refine ra_getR rfl lk_7_10 (Nat.zero_le _) sh_0 rfl ?_
  refine ra_cV (sp_62 isD_1 hci) rfl (ct_62 rfl lk_7_260 (Or.inl rfl) sh_40 (Nat.le_of_ble_eq_true rfl)) (fun s3 hs3 => ?_)
  obtain ⟨hf4, he5⟩ := hs3
  have hF6 := Fr_tr (lo := 0) (hi := 175) Fr_rf hf4 (by omega)
  have hci7 : CI s3 := he5
  refine ra_load rfl rfl rfl rfl ?_
  refine ra_getBw rfl lk_7_153 (Nat.zero_le _) (sh_P isD_1 hj2) rfl (fun z8 hz8 => ?_)
  refine ra_store (L' := [_, _, _, _, _]) rfl rfl rfl (Nat.le_of_ble_eq_true rfl) rfl ?_
  refine ra_load rfl rfl rfl rfl ?_
  refine ra_load rfl rfl rfl rfl ?_
  refine ra_putB rfl lk_7_153 (Nat.zero_le _) (sh_P isD_1 hj2) rfl rfl hx1 ?_
  refine ra_new Fr_up (fun s9 hs9 => ?_)
  have hF10 := Fr_tr (lo := 0) (hi := 175) hF6 hs9 (by omega)
  have hci11 : CI s9 := CI_fr hci7 hs9 (by omega)
  refine ra_load rfl rfl rfl rfl ?_
  exact ra_ireturn rfl (ra_okB hz8) ⟨Or.inl (⟨_, hz8, rfl⟩), ⟨hF10, hci11⟩⟩
theorem sp_145 {n : Nat} {f : Nat → Int32} {d : Nat} {x0 : Int} {x1 : Int} {σ : ra_V} (hx0 : ra_in x0) (hx1 : ra_in x1) (hci : CI σ) : ra_C (g_Gs n f) g_sh 0 (d + 7) 145 [.index (0), ra_I x0, ra_I x1] σ (fun r s => rX ["java/lang/IllegalStateException", "java/util/NoSuchElementException"] rI r ∧ Fr (0) (175) σ s ∧ CI s) := by
  refine ra_enter (nn := 2) mt_145 rfl (Nat.le_of_ble_eq_true rfl) rfl (fun h => absurd h (by decide +kernel)) ?_
  refine ra_load rfl rfl rfl rfl ?_
  refine ra_load rfl rfl rfl rfl ?_
  refine ra_cXNp (sp_176 hx0) rfl (ct_176 rfl lk_7_135 (Or.inl rfl) sh_0 (Nat.le_of_ble_eq_true rfl)) rfl (fun j2 hj2 => ?_) (fun E hE => ⟨Or.inr ⟨E, (show ∀ E ∈ (["java/util/NoSuchElementException"] : List String), E ∈ (["java/lang/IllegalStateException", "java/util/NoSuchElementException"] : List String) by decide) E hE, rfl⟩, ⟨Fr_rf, hci⟩⟩)
  refine ra_store (L' := [_, _, _, _, _]) rfl rfl rfl (Nat.le_of_ble_eq_true rfl) rfl ?_
  refine ra_load rfl rfl rfl rfl ?_
  refine ra_load rfl rfl rfl rfl ?_
  refine ra_load rfl rfl rfl rfl ?_
  refine ra_cXVp (sp_182 hj2 hx1) rfl (ct_182 rfl lk_7_279 (Or.inl rfl) sh_0 (Nat.le_of_ble_eq_true rfl)) rfl ?_ (fun E hE => ⟨Or.inr ⟨E, (show ∀ E ∈ (["java/lang/IllegalStateException"] : List String), E ∈ (["java/lang/IllegalStateException", "java/util/NoSuchElementException"] : List String) by decide) E hE, rfl⟩, ⟨Fr_rf, hci⟩⟩)
  refine ra_load rfl rfl rfl rfl ?_
  refine ra_getR rfl lk_7_25 (Nat.zero_le _) sh_0 rfl ?_
  refine ra_load rfl rfl rfl rfl ?_
  refine ra_getR rfl lk_7_10 (Nat.zero_le _) sh_0 rfl ?_
  refine ra_cV (sp_62 isD_1 hci) rfl (ct_62 rfl lk_7_260 (Or.inl rfl) sh_40 (Nat.le_of_ble_eq_true rfl)) (fun s4 hs4 => ?_)
  obtain ⟨hf5, he6⟩ := hs4
  have hF7 := Fr_tr (lo := 0) (hi := 175) Fr_rf hf5 (by omega)
  have hci8 : CI s4 := he6
  refine ra_load rfl rfl rfl rfl ?_
  refine ra_getI rfl lk_7_144 (Nat.zero_le _) (sh_P isD_1 hj2) rfl ?_
  refine ra_gen (fun z9 hz9 => ?_)
  refine ra_store (L' := [_, _, _, _, _]) rfl rfl rfl (Nat.le_of_ble_eq_true rfl) rfl ?_
  refine ra_load rfl rfl rfl rfl ?_
  refine ra_getR rfl lk_7_10 (Nat.zero_le _) sh_0 rfl ?_
  refine ra_load rfl rfl rfl rfl ?_
  refine ra_load rfl rfl rfl rfl ?_
  refine ra_cV (sp_34 isD_1 hj2 hx1) rfl (ct_34 rfl lk_7_283 (Or.inl rfl) (sh_D isD_1) (Nat.le_of_ble_eq_true rfl)) (fun s10 hs10 => ?_)
  have hF11 := Fr_tr (lo := 0) (hi := 175) hF7 hs10 (by omega)
  have hci12 : CI s10 := CI_fr hci8 hs10 (by omega)
  refine ra_load rfl rfl rfl rfl ?_
  exact ra_ireturn rfl rfl ⟨Or.inl (⟨_, hz9, rfl⟩), ⟨hF11, hci12⟩⟩
theorem sp_146 {n : Nat} {f : Nat → Int32} {d : Nat} {x0 : Int} {σ : ra_V} (hx0 : ra_in x0) (hci : CI σ) : ra_C (g_Gs n f) g_sh 0 (d + 7) 146 [.index (0), ra_I x0] σ (fun r s => rX ["java/lang/IllegalStateException", "java/util/NoSuchElementException"] rI r ∧ Fr (0) (175) σ s ∧ CI s) := by
  refine ra_enter (nn := 2) mt_146 rfl (Nat.le_of_ble_eq_true rfl) rfl (fun h => absurd h (by decide +kernel)) ?_
  refine ra_load rfl rfl rfl rfl ?_
  refine ra_load rfl rfl rfl rfl ?_
  refine ra_cXNp (sp_176 hx0) rfl (ct_176 rfl lk_7_135 (Or.inl rfl) sh_0 (Nat.le_of_ble_eq_true rfl)) rfl (fun j2 hj2 => ?_) (fun E hE => ⟨Or.inr ⟨E, (show ∀ E ∈ (["java/util/NoSuchElementException"] : List String), E ∈ (["java/lang/IllegalStateException", "java/util/NoSuchElementException"] : List String) by decide) E hE, rfl⟩, ⟨Fr_rf, hci⟩⟩)
  refine ra_store (L' := [_, _, _, _]) rfl rfl rfl (Nat.le_of_ble_eq_true rfl) rfl ?_
  refine ra_load rfl rfl rfl rfl ?_
  refine ra_getI rfl lk_7_144 (Nat.zero_le _) (sh_P isD_1 hj2) rfl ?_
  refine ra_gen (fun z3 hz3 => ?_)
  refine ra_load rfl rfl rfl rfl ?_
  refine ra_getR rfl lk_7_10 (Nat.zero_le _) sh_0 rfl ?_
  refine ra_getI rfl lk_7_100 (Nat.zero_le _) (sh_D isD_1) rfl ?_
  refine ra_gen (fun z4 hz4 => ?_)
  refine ra_cIp (sp_186 hz3 hz4) rfl (ct_186 rfl lk_7_286 (Or.inl rfl) (Nat.le_of_ble_eq_true rfl)) (fun z6 hz6 => ?_)
  refine ra_store (L' := [_, _, _, _]) rfl rfl rfl (Nat.le_of_ble_eq_true rfl) rfl ?_
  refine ra_load rfl rfl rfl rfl ?_
  refine ra_load rfl rfl rfl rfl ?_
  refine ra_load rfl rfl rfl rfl ?_
  refine ra_cXVp (sp_182 hj2 hz6) rfl (ct_182 rfl lk_7_279 (Or.inl rfl) sh_0 (Nat.le_of_ble_eq_true rfl)) rfl ?_ (fun E hE => ⟨Or.inr ⟨E, (show ∀ E ∈ (["java/lang/IllegalStateException"] : List String), E ∈ (["java/lang/IllegalStateException", "java/util/NoSuchElementException"] : List String) by decide) E hE, rfl⟩, ⟨Fr_rf, hci⟩⟩)
  refine ra_load rfl rfl rfl rfl ?_
  refine ra_getR rfl lk_7_25 (Nat.zero_le _) sh_0 rfl ?_
  refine ra_load rfl rfl rfl rfl ?_
  refine ra_getR rfl lk_7_10 (Nat.zero_le _) sh_0 rfl ?_
  refine ra_cV (sp_62 isD_1 hci) rfl (ct_62 rfl lk_7_260 (Or.inl rfl) sh_40 (Nat.le_of_ble_eq_true rfl)) (fun s8 hs8 => ?_)
  obtain ⟨hf9, he10⟩ := hs8
  have hF11 := Fr_tr (lo := 0) (hi := 175) Fr_rf hf9 (by omega)
  have hci12 : CI s8 := he10
  refine ra_load rfl rfl rfl rfl ?_
  refine ra_getR rfl lk_7_10 (Nat.zero_le _) sh_0 rfl ?_
  refine ra_load rfl rfl rfl rfl ?_
  refine ra_load rfl rfl rfl rfl ?_
  refine ra_cV (sp_34 isD_1 hj2 hz6) rfl (ct_34 rfl lk_7_283 (Or.inl rfl) (sh_D isD_1) (Nat.le_of_ble_eq_true rfl)) (fun s13 hs13 => ?_)
  have hF14 := Fr_tr (lo := 0) (hi := 175) hF11 hs13 (by omega)
  have hci15 : CI s13 := CI_fr hci12 hs13 (by omega)
  refine ra_load rfl rfl rfl rfl ?_
  exact ra_ireturn rfl rfl ⟨Or.inl (⟨_, hz6, rfl⟩), ⟨hF14, hci15⟩⟩
theorem sp_147 {n : Nat} {f : Nat → Int32} {d : Nat} {x0 : Int} {x1 : Int} {σ : ra_V} (hx0 : ra_in x0) (hx1 : ra_in x1) (hci : CI σ) : ra_C (g_Gs n f) g_sh 0 (d + 7) 147 [.index (0), ra_I x0, ra_I x1] σ (fun r s => rX ["java/lang/IllegalArgumentException", "java/util/NoSuchElementException"] rI r ∧ Fr (0) (175) σ s ∧ CI s) := by
  refine ra_enter (nn := 2) mt_147 rfl (Nat.le_of_ble_eq_true rfl) rfl (fun _ => by omega) ?_
  refine ra_load rfl rfl rfl rfl ?_
  refine ra_load rfl rfl rfl rfl ?_
  refine ra_cXNp (sp_176 hx0) rfl (ct_176 rfl lk_7_135 (Or.inl rfl) sh_0 (Nat.le_of_ble_eq_true rfl)) rfl (fun j2 hj2 => ?_) (fun E hE => ⟨Or.inr ⟨E, (show ∀ E ∈ (["java/util/NoSuchElementException"] : List String), E ∈ (["java/lang/IllegalArgumentException", "java/util/NoSuchElementException"] : List String) by decide) E hE, rfl⟩, ⟨Fr_rf, hci⟩⟩)
  refine ra_store (L' := [_, _, _, _, _]) rfl rfl rfl (Nat.le_of_ble_eq_true rfl) rfl ?_
  refine ra_load rfl rfl rfl rfl ?_
  refine ra_iconst rfl ?_
  refine ra_iclt rfl rfl hx1 (by first | omega | (unfold ra_in at *; omega)) (fun h3 => ?_) (fun h3 => ?_)
  · exact ra_throw (E := "java/lang/IllegalArgumentException") rfl lk_7_128 (by decide +kernel) (fun _ => rfl) ⟨Or.inr ⟨_, by simp, rfl⟩, ⟨Fr_rf, hci⟩⟩
  · refine ra_load rfl rfl rfl rfl ?_
    refine ra_load rfl rfl rfl rfl ?_
    refine ra_getI rfl lk_7_144 (Nat.zero_le _) (sh_P isD_1 hj2) rfl ?_
    refine ra_gen (fun z4 hz4 => ?_)
    refine ra_icle rfl rfl hx1 hz4 (fun h5 => ?_) (fun h5 => ?_)
    · refine ra_load rfl rfl rfl rfl ?_
      refine ra_getR rfl lk_7_25 (Nat.zero_le _) sh_0 rfl ?_
      refine ra_load rfl rfl rfl rfl ?_
      refine ra_getR rfl lk_7_10 (Nat.zero_le _) sh_0 rfl ?_
      refine ra_cV (sp_62 isD_1 hci) rfl (ct_62 rfl lk_7_260 (Or.inl rfl) sh_40 (Nat.le_of_ble_eq_true rfl)) (fun s6 hs6 => ?_)
      obtain ⟨hf7, he8⟩ := hs6
      have hF9 := Fr_tr (lo := 0) (hi := 175) Fr_rf hf7 (by omega)
      have hci10 : CI s6 := he8
      refine ra_load rfl rfl rfl rfl ?_
      refine ra_getI rfl lk_7_147 (Nat.zero_le _) (sh_P isD_1 hj2) rfl ?_
      refine ra_gen (fun z11 hz11 => ?_)
      refine ra_store (L' := [_, _, _, _, _]) rfl rfl rfl (Nat.le_of_ble_eq_true rfl) rfl ?_
      refine ra_load rfl rfl rfl rfl ?_
      refine ra_load rfl rfl rfl rfl ?_
      refine ra_putI rfl lk_7_147 (Nat.zero_le _) (sh_P isD_1 hj2) rfl rfl ?_
      refine ra_new Fr_up (fun s12 hs12 => ?_)
      have hF13 := Fr_tr (lo := 0) (hi := 175) hF9 hs12 (by omega)
      have hci14 : CI s12 := CI_fr hci10 hs12 (by omega)
      refine ra_load rfl rfl rfl rfl ?_
      exact ra_ireturn rfl rfl ⟨Or.inl (⟨_, hz11, rfl⟩), ⟨hF13, hci14⟩⟩
    · exact ra_throw (E := "java/lang/IllegalArgumentException") rfl lk_7_128 (by decide +kernel) (fun _ => rfl) ⟨Or.inr ⟨_, by simp, rfl⟩, ⟨Fr_rf, hci⟩⟩
theorem sp_149 {n : Nat} {f : Nat → Int32} {d : Nat} {x0 : Int} {x1 : Int} {σ : ra_V} (hx0 : ra_in x0) (hx1 : ra_in x1) (hci : CI σ) : ra_C (g_Gs n f) g_sh 0 (d + 6) 149 [.index (0), ra_I x0, ra_I x1] σ (fun r s => rX ["java/lang/IllegalArgumentException"] rI r ∧ Fr (0) (175) σ s ∧ CI s) := by
  refine ra_enter (nn := 1) mt_149 rfl (Nat.le_of_ble_eq_true rfl) rfl (fun _ => by omega) ?_
  refine ra_load rfl rfl rfl rfl ?_
  refine ra_iconst rfl ?_
  refine ra_iceq rfl rfl hx0 (by first | omega | (unfold ra_in at *; omega)) (fun h1 => ?_) (fun h1 => ?_)
  · refine ra_load rfl rfl rfl rfl ?_
    refine ra_iconst rfl ?_
    refine ra_iclt rfl rfl hx1 (by first | omega | (unfold ra_in at *; omega)) (fun h2 => ?_) (fun h2 => ?_)
    · exact ra_throw (E := "java/lang/IllegalArgumentException") rfl lk_7_128 (by decide +kernel) (fun _ => rfl) ⟨Or.inr ⟨_, by simp, rfl⟩, ⟨Fr_rf, hci⟩⟩
    · refine ra_load rfl rfl rfl rfl ?_
      refine ra_load rfl rfl rfl rfl ?_
      refine ra_iconst rfl ?_
      refine ra_icne rfl rfl hx0 (by first | omega | (unfold ra_in at *; omega)) (fun h3 => ?_) (fun h3 => ?_)
      · refine ra_bipush rfl (by decide) ?_
        refine ra_icle rfl rfl hx1 (by first | omega | (unfold ra_in at *; omega)) (fun h4 => ?_) (fun h4 => ?_)
        · refine ra_load rfl rfl rfl rfl ?_
          refine ra_getR rfl lk_7_25 (Nat.zero_le _) sh_0 rfl ?_
          refine ra_load rfl rfl rfl rfl ?_
          refine ra_getR rfl lk_7_10 (Nat.zero_le _) sh_0 rfl ?_
          refine ra_cV (sp_62 isD_1 hci) rfl (ct_62 rfl lk_7_260 (Or.inl rfl) sh_40 (Nat.le_of_ble_eq_true rfl)) (fun s5 hs5 => ?_)
          obtain ⟨hf6, he7⟩ := hs5
          have hF8 := Fr_tr (lo := 0) (hi := 175) Fr_rf hf6 (by omega)
          have hci9 : CI s5 := he7
          refine ra_load rfl rfl rfl rfl ?_
          refine ra_iconst rfl ?_
          refine ra_icne rfl rfl hx0 (by first | omega | (unfold ra_in at *; omega)) (fun h10 => ?_) (fun h10 => ?_)
          · refine ra_load rfl rfl rfl rfl ?_
            refine ra_getR rfl lk_7_10 (Nat.zero_le _) sh_0 rfl ?_
            refine ra_getI rfl lk_7_103 (Nat.zero_le _) (sh_D isD_1) rfl ?_
            refine ra_gen (fun z11 hz11 => ?_)
            refine ra_store (L' := [_, _, _, _]) rfl rfl rfl (Nat.le_of_ble_eq_true rfl) rfl ?_
            refine ra_load rfl rfl rfl rfl ?_
            refine ra_iconst rfl ?_
            refine ra_icne rfl rfl hx0 (by first | omega | (unfold ra_in at *; omega)) (fun h12 => ?_) (fun h12 => ?_)
            · refine ra_load rfl rfl rfl rfl ?_
              refine ra_getR rfl lk_7_10 (Nat.zero_le _) sh_0 rfl ?_
              refine ra_load rfl rfl rfl rfl ?_
              refine ra_putI rfl lk_7_103 (Nat.zero_le _) (sh_D isD_1) rfl rfl ?_
              refine ra_new Fr_up (fun s13 hs13 => ?_)
              have hF14 := Fr_tr (lo := 0) (hi := 175) hF8 hs13 (by omega)
              have hci15 : CI s13 := CI_fr hci9 hs13 (by omega)
              refine ra_load rfl rfl rfl rfl ?_
              exact ra_ireturn rfl rfl ⟨Or.inl (⟨_, hz11, rfl⟩), ⟨hF14, hci15⟩⟩
            · refine ra_load rfl rfl rfl rfl ?_
              refine ra_getR rfl lk_7_10 (Nat.zero_le _) sh_0 rfl ?_
              refine ra_load rfl rfl rfl rfl ?_
              refine ra_putI rfl lk_7_100 (Nat.zero_le _) (sh_D isD_1) rfl rfl ?_
              refine ra_new Fr_up (fun s16 hs16 => ?_)
              have hF17 := Fr_tr (lo := 0) (hi := 175) hF8 hs16 (by omega)
              have hci18 : CI s16 := CI_fr hci9 hs16 (by omega)
              refine ra_goto rfl rfl ?_
              refine ra_load rfl rfl rfl rfl ?_
              exact ra_ireturn rfl rfl ⟨Or.inl (⟨_, hz11, rfl⟩), ⟨hF17, hci18⟩⟩
          · refine ra_load rfl rfl rfl rfl ?_
            refine ra_getR rfl lk_7_10 (Nat.zero_le _) sh_0 rfl ?_
            refine ra_getI rfl lk_7_100 (Nat.zero_le _) (sh_D isD_1) rfl ?_
            refine ra_gen (fun z19 hz19 => ?_)
            refine ra_goto rfl rfl ?_
            refine ra_store (L' := [_, _, _, _]) rfl rfl rfl (Nat.le_of_ble_eq_true rfl) rfl ?_
            refine ra_load rfl rfl rfl rfl ?_
            refine ra_iconst rfl ?_
            refine ra_icne rfl rfl hx0 (by first | omega | (unfold ra_in at *; omega)) (fun h20 => ?_) (fun h20 => ?_)
            · refine ra_load rfl rfl rfl rfl ?_
              refine ra_getR rfl lk_7_10 (Nat.zero_le _) sh_0 rfl ?_
              refine ra_load rfl rfl rfl rfl ?_
              refine ra_putI rfl lk_7_103 (Nat.zero_le _) (sh_D isD_1) rfl rfl ?_
              refine ra_new Fr_up (fun s21 hs21 => ?_)
              have hF22 := Fr_tr (lo := 0) (hi := 175) hF8 hs21 (by omega)
              have hci23 : CI s21 := CI_fr hci9 hs21 (by omega)
              refine ra_load rfl rfl rfl rfl ?_
              exact ra_ireturn rfl rfl ⟨Or.inl (⟨_, hz19, rfl⟩), ⟨hF22, hci23⟩⟩
            · refine ra_load rfl rfl rfl rfl ?_
              refine ra_getR rfl lk_7_10 (Nat.zero_le _) sh_0 rfl ?_
              refine ra_load rfl rfl rfl rfl ?_
              refine ra_putI rfl lk_7_100 (Nat.zero_le _) (sh_D isD_1) rfl rfl ?_
              refine ra_new Fr_up (fun s24 hs24 => ?_)
              have hF25 := Fr_tr (lo := 0) (hi := 175) hF8 hs24 (by omega)
              have hci26 : CI s24 := CI_fr hci9 hs24 (by omega)
              refine ra_goto rfl rfl ?_
              refine ra_load rfl rfl rfl rfl ?_
              exact ra_ireturn rfl rfl ⟨Or.inl (⟨_, hz19, rfl⟩), ⟨hF25, hci26⟩⟩
        · exact ra_throw (E := "java/lang/IllegalArgumentException") rfl lk_7_128 (by decide +kernel) (fun _ => rfl) ⟨Or.inr ⟨_, by simp, rfl⟩, ⟨Fr_rf, hci⟩⟩
      · refine ra_bipush rfl (by decide) ?_
        refine ra_goto rfl rfl ?_
        refine ra_icle rfl rfl hx1 (by first | omega | (unfold ra_in at *; omega)) (fun h27 => ?_) (fun h27 => ?_)
        · refine ra_load rfl rfl rfl rfl ?_
          refine ra_getR rfl lk_7_25 (Nat.zero_le _) sh_0 rfl ?_
          refine ra_load rfl rfl rfl rfl ?_
          refine ra_getR rfl lk_7_10 (Nat.zero_le _) sh_0 rfl ?_
          refine ra_cV (sp_62 isD_1 hci) rfl (ct_62 rfl lk_7_260 (Or.inl rfl) sh_40 (Nat.le_of_ble_eq_true rfl)) (fun s28 hs28 => ?_)
          obtain ⟨hf29, he30⟩ := hs28
          have hF31 := Fr_tr (lo := 0) (hi := 175) Fr_rf hf29 (by omega)
          have hci32 : CI s28 := he30
          refine ra_load rfl rfl rfl rfl ?_
          refine ra_iconst rfl ?_
          refine ra_icne rfl rfl hx0 (by first | omega | (unfold ra_in at *; omega)) (fun h33 => ?_) (fun h33 => ?_)
          · refine ra_load rfl rfl rfl rfl ?_
            refine ra_getR rfl lk_7_10 (Nat.zero_le _) sh_0 rfl ?_
            refine ra_getI rfl lk_7_103 (Nat.zero_le _) (sh_D isD_1) rfl ?_
            refine ra_gen (fun z34 hz34 => ?_)
            refine ra_store (L' := [_, _, _, _]) rfl rfl rfl (Nat.le_of_ble_eq_true rfl) rfl ?_
            refine ra_load rfl rfl rfl rfl ?_
            refine ra_iconst rfl ?_
            refine ra_icne rfl rfl hx0 (by first | omega | (unfold ra_in at *; omega)) (fun h35 => ?_) (fun h35 => ?_)
            · refine ra_load rfl rfl rfl rfl ?_
              refine ra_getR rfl lk_7_10 (Nat.zero_le _) sh_0 rfl ?_
              refine ra_load rfl rfl rfl rfl ?_
              refine ra_putI rfl lk_7_103 (Nat.zero_le _) (sh_D isD_1) rfl rfl ?_
              refine ra_new Fr_up (fun s36 hs36 => ?_)
              have hF37 := Fr_tr (lo := 0) (hi := 175) hF31 hs36 (by omega)
              have hci38 : CI s36 := CI_fr hci32 hs36 (by omega)
              refine ra_load rfl rfl rfl rfl ?_
              exact ra_ireturn rfl rfl ⟨Or.inl (⟨_, hz34, rfl⟩), ⟨hF37, hci38⟩⟩
            · refine ra_load rfl rfl rfl rfl ?_
              refine ra_getR rfl lk_7_10 (Nat.zero_le _) sh_0 rfl ?_
              refine ra_load rfl rfl rfl rfl ?_
              refine ra_putI rfl lk_7_100 (Nat.zero_le _) (sh_D isD_1) rfl rfl ?_
              refine ra_new Fr_up (fun s39 hs39 => ?_)
              have hF40 := Fr_tr (lo := 0) (hi := 175) hF31 hs39 (by omega)
              have hci41 : CI s39 := CI_fr hci32 hs39 (by omega)
              refine ra_goto rfl rfl ?_
              refine ra_load rfl rfl rfl rfl ?_
              exact ra_ireturn rfl rfl ⟨Or.inl (⟨_, hz34, rfl⟩), ⟨hF40, hci41⟩⟩
          · refine ra_load rfl rfl rfl rfl ?_
            refine ra_getR rfl lk_7_10 (Nat.zero_le _) sh_0 rfl ?_
            refine ra_getI rfl lk_7_100 (Nat.zero_le _) (sh_D isD_1) rfl ?_
            refine ra_gen (fun z42 hz42 => ?_)
            refine ra_goto rfl rfl ?_
            refine ra_store (L' := [_, _, _, _]) rfl rfl rfl (Nat.le_of_ble_eq_true rfl) rfl ?_
            refine ra_load rfl rfl rfl rfl ?_
            refine ra_iconst rfl ?_
            refine ra_icne rfl rfl hx0 (by first | omega | (unfold ra_in at *; omega)) (fun h43 => ?_) (fun h43 => ?_)
            · refine ra_load rfl rfl rfl rfl ?_
              refine ra_getR rfl lk_7_10 (Nat.zero_le _) sh_0 rfl ?_
              refine ra_load rfl rfl rfl rfl ?_
              refine ra_putI rfl lk_7_103 (Nat.zero_le _) (sh_D isD_1) rfl rfl ?_
              refine ra_new Fr_up (fun s44 hs44 => ?_)
              have hF45 := Fr_tr (lo := 0) (hi := 175) hF31 hs44 (by omega)
              have hci46 : CI s44 := CI_fr hci32 hs44 (by omega)
              refine ra_load rfl rfl rfl rfl ?_
              exact ra_ireturn rfl rfl ⟨Or.inl (⟨_, hz42, rfl⟩), ⟨hF45, hci46⟩⟩
            · refine ra_load rfl rfl rfl rfl ?_
              refine ra_getR rfl lk_7_10 (Nat.zero_le _) sh_0 rfl ?_
              refine ra_load rfl rfl rfl rfl ?_
              refine ra_putI rfl lk_7_100 (Nat.zero_le _) (sh_D isD_1) rfl rfl ?_
              refine ra_new Fr_up (fun s47 hs47 => ?_)
              have hF48 := Fr_tr (lo := 0) (hi := 175) hF31 hs47 (by omega)
              have hci49 : CI s47 := CI_fr hci32 hs47 (by omega)
              refine ra_goto rfl rfl ?_
              refine ra_load rfl rfl rfl rfl ?_
              exact ra_ireturn rfl rfl ⟨Or.inl (⟨_, hz42, rfl⟩), ⟨hF48, hci49⟩⟩
        · exact ra_throw (E := "java/lang/IllegalArgumentException") rfl lk_7_128 (by decide +kernel) (fun _ => rfl) ⟨Or.inr ⟨_, by simp, rfl⟩, ⟨Fr_rf, hci⟩⟩
  · refine ra_load rfl rfl rfl rfl ?_
    refine ra_iconst rfl ?_
    refine ra_iceq rfl rfl hx0 (by first | omega | (unfold ra_in at *; omega)) (fun h50 => ?_) (fun h50 => ?_)
    · refine ra_load rfl rfl rfl rfl ?_
      refine ra_iconst rfl ?_
      refine ra_iclt rfl rfl hx1 (by first | omega | (unfold ra_in at *; omega)) (fun h51 => ?_) (fun h51 => ?_)
      · exact ra_throw (E := "java/lang/IllegalArgumentException") rfl lk_7_128 (by decide +kernel) (fun _ => rfl) ⟨Or.inr ⟨_, by simp, rfl⟩, ⟨Fr_rf, hci⟩⟩
      · refine ra_load rfl rfl rfl rfl ?_
        refine ra_load rfl rfl rfl rfl ?_
        refine ra_iconst rfl ?_
        refine ra_icne rfl rfl hx0 (by first | omega | (unfold ra_in at *; omega)) (fun h52 => ?_) (fun h52 => ?_)
        · refine ra_bipush rfl (by decide) ?_
          refine ra_icle rfl rfl hx1 (by first | omega | (unfold ra_in at *; omega)) (fun h53 => ?_) (fun h53 => ?_)
          · refine ra_load rfl rfl rfl rfl ?_
            refine ra_getR rfl lk_7_25 (Nat.zero_le _) sh_0 rfl ?_
            refine ra_load rfl rfl rfl rfl ?_
            refine ra_getR rfl lk_7_10 (Nat.zero_le _) sh_0 rfl ?_
            refine ra_cV (sp_62 isD_1 hci) rfl (ct_62 rfl lk_7_260 (Or.inl rfl) sh_40 (Nat.le_of_ble_eq_true rfl)) (fun s54 hs54 => ?_)
            obtain ⟨hf55, he56⟩ := hs54
            have hF57 := Fr_tr (lo := 0) (hi := 175) Fr_rf hf55 (by omega)
            have hci58 : CI s54 := he56
            refine ra_load rfl rfl rfl rfl ?_
            refine ra_iconst rfl ?_
            refine ra_icne rfl rfl hx0 (by first | omega | (unfold ra_in at *; omega)) (fun h59 => ?_) (fun h59 => ?_)
            · refine ra_load rfl rfl rfl rfl ?_
              refine ra_getR rfl lk_7_10 (Nat.zero_le _) sh_0 rfl ?_
              refine ra_getI rfl lk_7_103 (Nat.zero_le _) (sh_D isD_1) rfl ?_
              refine ra_gen (fun z60 hz60 => ?_)
              refine ra_store (L' := [_, _, _, _]) rfl rfl rfl (Nat.le_of_ble_eq_true rfl) rfl ?_
              refine ra_load rfl rfl rfl rfl ?_
              refine ra_iconst rfl ?_
              refine ra_icne rfl rfl hx0 (by first | omega | (unfold ra_in at *; omega)) (fun h61 => ?_) (fun h61 => ?_)
              · refine ra_load rfl rfl rfl rfl ?_
                refine ra_getR rfl lk_7_10 (Nat.zero_le _) sh_0 rfl ?_
                refine ra_load rfl rfl rfl rfl ?_
                refine ra_putI rfl lk_7_103 (Nat.zero_le _) (sh_D isD_1) rfl rfl ?_
                refine ra_new Fr_up (fun s62 hs62 => ?_)
                have hF63 := Fr_tr (lo := 0) (hi := 175) hF57 hs62 (by omega)
                have hci64 : CI s62 := CI_fr hci58 hs62 (by omega)
                refine ra_load rfl rfl rfl rfl ?_
                exact ra_ireturn rfl rfl ⟨Or.inl (⟨_, hz60, rfl⟩), ⟨hF63, hci64⟩⟩
              · refine ra_load rfl rfl rfl rfl ?_
                refine ra_getR rfl lk_7_10 (Nat.zero_le _) sh_0 rfl ?_
                refine ra_load rfl rfl rfl rfl ?_
                refine ra_putI rfl lk_7_100 (Nat.zero_le _) (sh_D isD_1) rfl rfl ?_
                refine ra_new Fr_up (fun s65 hs65 => ?_)
                have hF66 := Fr_tr (lo := 0) (hi := 175) hF57 hs65 (by omega)
                have hci67 : CI s65 := CI_fr hci58 hs65 (by omega)
                refine ra_goto rfl rfl ?_
                refine ra_load rfl rfl rfl rfl ?_
                exact ra_ireturn rfl rfl ⟨Or.inl (⟨_, hz60, rfl⟩), ⟨hF66, hci67⟩⟩
            · refine ra_load rfl rfl rfl rfl ?_
              refine ra_getR rfl lk_7_10 (Nat.zero_le _) sh_0 rfl ?_
              refine ra_getI rfl lk_7_100 (Nat.zero_le _) (sh_D isD_1) rfl ?_
              refine ra_gen (fun z68 hz68 => ?_)
              refine ra_goto rfl rfl ?_
              refine ra_store (L' := [_, _, _, _]) rfl rfl rfl (Nat.le_of_ble_eq_true rfl) rfl ?_
              refine ra_load rfl rfl rfl rfl ?_
              refine ra_iconst rfl ?_
              refine ra_icne rfl rfl hx0 (by first | omega | (unfold ra_in at *; omega)) (fun h69 => ?_) (fun h69 => ?_)
              · refine ra_load rfl rfl rfl rfl ?_
                refine ra_getR rfl lk_7_10 (Nat.zero_le _) sh_0 rfl ?_
                refine ra_load rfl rfl rfl rfl ?_
                refine ra_putI rfl lk_7_103 (Nat.zero_le _) (sh_D isD_1) rfl rfl ?_
                refine ra_new Fr_up (fun s70 hs70 => ?_)
                have hF71 := Fr_tr (lo := 0) (hi := 175) hF57 hs70 (by omega)
                have hci72 : CI s70 := CI_fr hci58 hs70 (by omega)
                refine ra_load rfl rfl rfl rfl ?_
                exact ra_ireturn rfl rfl ⟨Or.inl (⟨_, hz68, rfl⟩), ⟨hF71, hci72⟩⟩
              · refine ra_load rfl rfl rfl rfl ?_
                refine ra_getR rfl lk_7_10 (Nat.zero_le _) sh_0 rfl ?_
                refine ra_load rfl rfl rfl rfl ?_
                refine ra_putI rfl lk_7_100 (Nat.zero_le _) (sh_D isD_1) rfl rfl ?_
                refine ra_new Fr_up (fun s73 hs73 => ?_)
                have hF74 := Fr_tr (lo := 0) (hi := 175) hF57 hs73 (by omega)
                have hci75 : CI s73 := CI_fr hci58 hs73 (by omega)
                refine ra_goto rfl rfl ?_
                refine ra_load rfl rfl rfl rfl ?_
                exact ra_ireturn rfl rfl ⟨Or.inl (⟨_, hz68, rfl⟩), ⟨hF74, hci75⟩⟩
          · exact ra_throw (E := "java/lang/IllegalArgumentException") rfl lk_7_128 (by decide +kernel) (fun _ => rfl) ⟨Or.inr ⟨_, by simp, rfl⟩, ⟨Fr_rf, hci⟩⟩
        · refine ra_bipush rfl (by decide) ?_
          refine ra_goto rfl rfl ?_
          refine ra_icle rfl rfl hx1 (by first | omega | (unfold ra_in at *; omega)) (fun h76 => ?_) (fun h76 => ?_)
          · refine ra_load rfl rfl rfl rfl ?_
            refine ra_getR rfl lk_7_25 (Nat.zero_le _) sh_0 rfl ?_
            refine ra_load rfl rfl rfl rfl ?_
            refine ra_getR rfl lk_7_10 (Nat.zero_le _) sh_0 rfl ?_
            refine ra_cV (sp_62 isD_1 hci) rfl (ct_62 rfl lk_7_260 (Or.inl rfl) sh_40 (Nat.le_of_ble_eq_true rfl)) (fun s77 hs77 => ?_)
            obtain ⟨hf78, he79⟩ := hs77
            have hF80 := Fr_tr (lo := 0) (hi := 175) Fr_rf hf78 (by omega)
            have hci81 : CI s77 := he79
            refine ra_load rfl rfl rfl rfl ?_
            refine ra_iconst rfl ?_
            refine ra_icne rfl rfl hx0 (by first | omega | (unfold ra_in at *; omega)) (fun h82 => ?_) (fun h82 => ?_)
            · refine ra_load rfl rfl rfl rfl ?_
              refine ra_getR rfl lk_7_10 (Nat.zero_le _) sh_0 rfl ?_
              refine ra_getI rfl lk_7_103 (Nat.zero_le _) (sh_D isD_1) rfl ?_
              refine ra_gen (fun z83 hz83 => ?_)
              refine ra_store (L' := [_, _, _, _]) rfl rfl rfl (Nat.le_of_ble_eq_true rfl) rfl ?_
              refine ra_load rfl rfl rfl rfl ?_
              refine ra_iconst rfl ?_
              refine ra_icne rfl rfl hx0 (by first | omega | (unfold ra_in at *; omega)) (fun h84 => ?_) (fun h84 => ?_)
              · refine ra_load rfl rfl rfl rfl ?_
                refine ra_getR rfl lk_7_10 (Nat.zero_le _) sh_0 rfl ?_
                refine ra_load rfl rfl rfl rfl ?_
                refine ra_putI rfl lk_7_103 (Nat.zero_le _) (sh_D isD_1) rfl rfl ?_
                refine ra_new Fr_up (fun s85 hs85 => ?_)
                have hF86 := Fr_tr (lo := 0) (hi := 175) hF80 hs85 (by omega)
                have hci87 : CI s85 := CI_fr hci81 hs85 (by omega)
                refine ra_load rfl rfl rfl rfl ?_
                exact ra_ireturn rfl rfl ⟨Or.inl (⟨_, hz83, rfl⟩), ⟨hF86, hci87⟩⟩
              · refine ra_load rfl rfl rfl rfl ?_
                refine ra_getR rfl lk_7_10 (Nat.zero_le _) sh_0 rfl ?_
                refine ra_load rfl rfl rfl rfl ?_
                refine ra_putI rfl lk_7_100 (Nat.zero_le _) (sh_D isD_1) rfl rfl ?_
                refine ra_new Fr_up (fun s88 hs88 => ?_)
                have hF89 := Fr_tr (lo := 0) (hi := 175) hF80 hs88 (by omega)
                have hci90 : CI s88 := CI_fr hci81 hs88 (by omega)
                refine ra_goto rfl rfl ?_
                refine ra_load rfl rfl rfl rfl ?_
                exact ra_ireturn rfl rfl ⟨Or.inl (⟨_, hz83, rfl⟩), ⟨hF89, hci90⟩⟩
            · refine ra_load rfl rfl rfl rfl ?_
              refine ra_getR rfl lk_7_10 (Nat.zero_le _) sh_0 rfl ?_
              refine ra_getI rfl lk_7_100 (Nat.zero_le _) (sh_D isD_1) rfl ?_
              refine ra_gen (fun z91 hz91 => ?_)
              refine ra_goto rfl rfl ?_
              refine ra_store (L' := [_, _, _, _]) rfl rfl rfl (Nat.le_of_ble_eq_true rfl) rfl ?_
              refine ra_load rfl rfl rfl rfl ?_
              refine ra_iconst rfl ?_
              refine ra_icne rfl rfl hx0 (by first | omega | (unfold ra_in at *; omega)) (fun h92 => ?_) (fun h92 => ?_)
              · refine ra_load rfl rfl rfl rfl ?_
                refine ra_getR rfl lk_7_10 (Nat.zero_le _) sh_0 rfl ?_
                refine ra_load rfl rfl rfl rfl ?_
                refine ra_putI rfl lk_7_103 (Nat.zero_le _) (sh_D isD_1) rfl rfl ?_
                refine ra_new Fr_up (fun s93 hs93 => ?_)
                have hF94 := Fr_tr (lo := 0) (hi := 175) hF80 hs93 (by omega)
                have hci95 : CI s93 := CI_fr hci81 hs93 (by omega)
                refine ra_load rfl rfl rfl rfl ?_
                exact ra_ireturn rfl rfl ⟨Or.inl (⟨_, hz91, rfl⟩), ⟨hF94, hci95⟩⟩
              · refine ra_load rfl rfl rfl rfl ?_
                refine ra_getR rfl lk_7_10 (Nat.zero_le _) sh_0 rfl ?_
                refine ra_load rfl rfl rfl rfl ?_
                refine ra_putI rfl lk_7_100 (Nat.zero_le _) (sh_D isD_1) rfl rfl ?_
                refine ra_new Fr_up (fun s96 hs96 => ?_)
                have hF97 := Fr_tr (lo := 0) (hi := 175) hF80 hs96 (by omega)
                have hci98 : CI s96 := CI_fr hci81 hs96 (by omega)
                refine ra_goto rfl rfl ?_
                refine ra_load rfl rfl rfl rfl ?_
                exact ra_ireturn rfl rfl ⟨Or.inl (⟨_, hz91, rfl⟩), ⟨hF97, hci98⟩⟩
          · exact ra_throw (E := "java/lang/IllegalArgumentException") rfl lk_7_128 (by decide +kernel) (fun _ => rfl) ⟨Or.inr ⟨_, by simp, rfl⟩, ⟨Fr_rf, hci⟩⟩
    · exact ra_throw (E := "java/lang/IllegalArgumentException") rfl lk_7_128 (by decide +kernel) (fun _ => rfl) ⟨Or.inr ⟨_, by simp, rfl⟩, ⟨Fr_rf, hci⟩⟩
theorem sp_150 {n : Nat} {f : Nat → Int32} {d : Nat} {x0 : Int} {x1 : Int} {σ : ra_V} (hx0 : ra_in x0) (hx1 : ra_in x1) (hci : CI σ) : ra_C (g_Gs n f) g_sh 0 (d + 7) 150 [.index (0), ra_I x0, ra_I x1] σ (fun r s => rX ["java/lang/IllegalArgumentException", "java/lang/IllegalStateException", "java/util/NoSuchElementException"] rI r ∧ Fr (0) (175) σ s ∧ CI s) := by
  refine ra_enter (nn := 2) mt_150 rfl (Nat.le_of_ble_eq_true rfl) rfl (fun _ => by omega) ?_
  refine ra_load rfl rfl rfl rfl ?_
  refine ra_load rfl rfl rfl rfl ?_
  refine ra_cXNp (sp_176 hx0) rfl (ct_176 rfl lk_7_135 (Or.inl rfl) sh_0 (Nat.le_of_ble_eq_true rfl)) rfl (fun j2 hj2 => ?_) (fun E hE => ⟨Or.inr ⟨E, (show ∀ E ∈ (["java/util/NoSuchElementException"] : List String), E ∈ (["java/lang/IllegalArgumentException", "java/lang/IllegalStateException", "java/util/NoSuchElementException"] : List String) by decide) E hE, rfl⟩, ⟨Fr_rf, hci⟩⟩)
  refine ra_store (L' := [_, _, _, _, _]) rfl rfl rfl (Nat.le_of_ble_eq_true rfl) rfl ?_
  refine ra_load rfl rfl rfl rfl ?_
  refine ra_load rfl rfl rfl rfl ?_
  refine ra_getI rfl lk_7_147 (Nat.zero_le _) (sh_P isD_1 hj2) rfl ?_
  refine ra_gen (fun z3 hz3 => ?_)
  refine ra_iclt rfl rfl hx1 hz3 (fun h4 => ?_) (fun h4 => ?_)
  · exact ra_throw (E := "java/lang/IllegalArgumentException") rfl lk_7_128 (by decide +kernel) (fun _ => rfl) ⟨Or.inr ⟨_, by simp, rfl⟩, ⟨Fr_rf, hci⟩⟩
  · refine ra_load rfl rfl rfl rfl ?_
    refine ra_load rfl rfl rfl rfl ?_
    refine ra_getI rfl lk_7_144 (Nat.zero_le _) (sh_P isD_1 hj2) rfl ?_
    refine ra_gen (fun z5 hz5 => ?_)
    refine ra_iclt rfl rfl hx1 hz5 (fun h6 => ?_) (fun h6 => ?_)
    · refine ra_load rfl rfl rfl rfl ?_
      refine ra_load rfl rfl rfl rfl ?_
      refine ra_cXVp (sp_181 hj2) rfl (ct_181 rfl lk_7_272 (Or.inl rfl) sh_0 (Nat.le_of_ble_eq_true rfl)) rfl ?_ (fun E hE => ⟨Or.inr ⟨E, (show ∀ E ∈ (["java/lang/IllegalStateException"] : List String), E ∈ (["java/lang/IllegalArgumentException", "java/lang/IllegalStateException", "java/util/NoSuchElementException"] : List String) by decide) E hE, rfl⟩, ⟨Fr_rf, hci⟩⟩)
      refine ra_load rfl rfl rfl rfl ?_
      refine ra_getR rfl lk_7_10 (Nat.zero_le _) sh_0 rfl ?_
      refine ra_load rfl rfl rfl rfl ?_
      refine ra_getI rfl lk_7_139 (Nat.zero_le _) (sh_P isD_1 hj2) rfl ?_
      refine ra_gen (fun z8 hz8 => ?_)
      refine ra_load rfl rfl rfl rfl ?_
      refine ra_iadd rfl ?_
      refine ra_gen (fun z9 hz9 => ?_)
      refine ra_cBp (sp_11 isD_1 hz9) rfl (ct_11 rfl lk_7_298 (Or.inl rfl) (sh_D isD_1) (Nat.le_of_ble_eq_true rfl)) (fun z11 hz11 => ?_)
      refine ra_ifne rfl rfl (ra_in01 hz11) (fun h12 => ?_) (fun h12 => ?_)
      · refine ra_load rfl rfl rfl rfl ?_
        refine ra_cXVp (sp_180 ) rfl (ct_180 rfl lk_7_257 (Or.inl rfl) sh_0 (Nat.le_of_ble_eq_true rfl)) rfl ?_ (fun E hE => ⟨Or.inr ⟨E, (show ∀ E ∈ (["java/lang/IllegalStateException"] : List String), E ∈ (["java/lang/IllegalArgumentException", "java/lang/IllegalStateException", "java/util/NoSuchElementException"] : List String) by decide) E hE, rfl⟩, ⟨Fr_rf, hci⟩⟩)
        refine ra_load rfl rfl rfl rfl ?_
        refine ra_getR rfl lk_7_25 (Nat.zero_le _) sh_0 rfl ?_
        refine ra_load rfl rfl rfl rfl ?_
        refine ra_getR rfl lk_7_10 (Nat.zero_le _) sh_0 rfl ?_
        refine ra_cV (sp_62 isD_1 hci) rfl (ct_62 rfl lk_7_260 (Or.inl rfl) sh_40 (Nat.le_of_ble_eq_true rfl)) (fun s14 hs14 => ?_)
        obtain ⟨hf15, he16⟩ := hs14
        have hF17 := Fr_tr (lo := 0) (hi := 175) Fr_rf hf15 (by omega)
        have hci18 : CI s14 := he16
        refine ra_load rfl rfl rfl rfl ?_
        refine ra_getI rfl lk_7_144 (Nat.zero_le _) (sh_P isD_1 hj2) rfl ?_
        refine ra_gen (fun z19 hz19 => ?_)
        refine ra_load rfl rfl rfl rfl ?_
        refine ra_isub rfl ?_
        refine ra_gen (fun z20 hz20 => ?_)
        refine ra_store (L' := [_, _, _, _, _]) rfl rfl rfl (Nat.le_of_ble_eq_true rfl) rfl ?_
        refine ra_load rfl rfl rfl rfl ?_
        refine ra_load rfl rfl rfl rfl ?_
        refine ra_putI rfl lk_7_144 (Nat.zero_le _) (sh_P isD_1 hj2) rfl rfl ?_
        refine ra_new Fr_up (fun s21 hs21 => ?_)
        have hF22 := Fr_tr (lo := 0) (hi := 175) hF17 hs21 (by omega)
        have hci23 : CI s21 := CI_fr hci18 hs21 (by omega)
        refine ra_load rfl rfl rfl rfl ?_
        refine ra_getR rfl lk_7_10 (Nat.zero_le _) sh_0 rfl ?_
        refine ra_load rfl rfl rfl rfl ?_
        refine ra_getI rfl lk_7_139 (Nat.zero_le _) (sh_P isD_1 hj2) rfl ?_
        refine ra_gen (fun z24 hz24 => ?_)
        refine ra_load rfl rfl rfl rfl ?_
        refine ra_iadd rfl ?_
        refine ra_gen (fun z25 hz25 => ?_)
        refine ra_load rfl rfl rfl rfl ?_
        refine ra_load rfl rfl rfl rfl ?_
        refine ra_getI rfl lk_7_150 (Nat.zero_le _) (sh_P isD_1 hj2) rfl ?_
        refine ra_gen (fun z26 hz26 => ?_)
        refine ra_iconst rfl ?_
        refine ra_cI (sp_33 isD_1 hz25 hz20 hz26 (by first | omega | (unfold ra_in at *; omega))) rfl (ct_33 rfl lk_7_263 (Or.inl rfl) (sh_D isD_1) (Nat.le_of_ble_eq_true rfl)) (fun z28 s27  hz28 hs27 => ?_)
        have hF29 := Fr_tr (lo := 0) (hi := 175) hF22 hs27 (by omega)
        have hci30 : CI s27 := CI_fr hci23 hs27 (by omega)
        exact ra_ireturn rfl rfl ⟨Or.inl (⟨_, hz28, rfl⟩), ⟨hF29, hci30⟩⟩
      · exact ra_throw (E := "java/lang/IllegalStateException") rfl lk_7_267 (by decide +kernel) (fun _ => rfl) ⟨Or.inr ⟨_, by simp, rfl⟩, ⟨Fr_rf, hci⟩⟩
    · exact ra_throw (E := "java/lang/IllegalArgumentException") rfl lk_7_128 (by decide +kernel) (fun _ => rfl) ⟨Or.inr ⟨_, by simp, rfl⟩, ⟨Fr_rf, hci⟩⟩
theorem sp_151 {n : Nat} {f : Nat → Int32} {d : Nat} {x0 : Int} {σ : ra_V} (hx0 : ra_in x0) (hci : CI σ) : ra_C (g_Gs n f) g_sh 0 (d + 7) 151 [.index (0), ra_I x0] σ (fun r s => rX ["java/lang/IllegalStateException", "java/util/NoSuchElementException"] rI r ∧ Fr (0) (175) σ s ∧ CI s) := by
  refine ra_enter (nn := 3) mt_151 rfl (Nat.le_of_ble_eq_true rfl) rfl (fun _ => by omega) ?_
  refine ra_load rfl rfl rfl rfl ?_
  refine ra_load rfl rfl rfl rfl ?_
  refine ra_cXNp (sp_176 hx0) rfl (ct_176 rfl lk_7_135 (Or.inl rfl) sh_0 (Nat.le_of_ble_eq_true rfl)) rfl (fun j2 hj2 => ?_) (fun E hE => ⟨Or.inr ⟨E, (show ∀ E ∈ (["java/util/NoSuchElementException"] : List String), E ∈ (["java/lang/IllegalStateException", "java/util/NoSuchElementException"] : List String) by decide) E hE, rfl⟩, ⟨Fr_rf, hci⟩⟩)
  refine ra_store (L' := [_, _, _, _, _]) rfl rfl rfl (Nat.le_of_ble_eq_true rfl) rfl ?_
  refine ra_load rfl rfl rfl rfl ?_
  refine ra_getR rfl lk_7_10 (Nat.zero_le _) sh_0 rfl ?_
  refine ra_load rfl rfl rfl rfl ?_
  refine ra_getI rfl lk_7_139 (Nat.zero_le _) (sh_P isD_1 hj2) rfl ?_
  refine ra_gen (fun z3 hz3 => ?_)
  refine ra_cPp (sp_6 isD_1 hz3) rfl (ct_6 rfl lk_7_187 (Or.inl rfl) (sh_D isD_1) (Nat.le_of_ble_eq_true rfl)) ?_ (fun j5 hj5 => ?_)
  · refine ra_store (L' := [_, _, _, _, _]) rfl rfl rfl (Nat.le_of_ble_eq_true rfl) rfl ?_
    refine ra_load rfl rfl rfl rfl ?_
    refine ra_nullT rfl rfl ?_
    exact ra_throw (E := "java/lang/IllegalStateException") rfl lk_7_267 (by decide +kernel) (fun _ => rfl) ⟨Or.inr ⟨_, by simp, rfl⟩, ⟨Fr_rf, hci⟩⟩
  · refine ra_store (L' := [_, _, _, _, _]) rfl rfl rfl (Nat.le_of_ble_eq_true rfl) rfl ?_
    refine ra_load rfl rfl rfl rfl ?_
    refine ra_nullF rfl rfl ?_
    refine ra_load rfl rfl rfl rfl ?_
    refine ra_getI rfl lk_7_139 (Nat.zero_le _) (sh_P isD_1 hj5) rfl ?_
    refine ra_gen (fun z6 hz6 => ?_)
    refine ra_load rfl rfl rfl rfl ?_
    refine ra_cIp (sp_93 isD_1 hj2) rfl (ct_93 rfl lk_7_303 (Or.inl rfl) (sh_P isD_1 hj2) (Nat.le_of_ble_eq_true rfl)) (fun z8 hz8 => ?_)
    refine ra_iceq rfl rfl hz6 hz8 (fun h9 => ?_) (fun h9 => ?_)
    · refine ra_load rfl rfl rfl rfl ?_
      refine ra_getI rfl lk_7_150 (Nat.zero_le _) (sh_P isD_1 hj5) rfl ?_
      refine ra_gen (fun z10 hz10 => ?_)
      refine ra_load rfl rfl rfl rfl ?_
      refine ra_getI rfl lk_7_150 (Nat.zero_le _) (sh_P isD_1 hj2) rfl ?_
      refine ra_gen (fun z11 hz11 => ?_)
      refine ra_iceq rfl rfl hz10 hz11 (fun h12 => ?_) (fun h12 => ?_)
      · refine ra_load rfl rfl rfl rfl ?_
        refine ra_load rfl rfl rfl rfl ?_
        refine ra_cXVp (sp_181 hj2) rfl (ct_181 rfl lk_7_272 (Or.inl rfl) sh_0 (Nat.le_of_ble_eq_true rfl)) rfl ?_ (fun E hE => ⟨Or.inr ⟨E, (show ∀ E ∈ (["java/lang/IllegalStateException"] : List String), E ∈ (["java/lang/IllegalStateException", "java/util/NoSuchElementException"] : List String) by decide) E hE, rfl⟩, ⟨Fr_rf, hci⟩⟩)
        refine ra_load rfl rfl rfl rfl ?_
        refine ra_load rfl rfl rfl rfl ?_
        refine ra_cXVp (sp_181 hj5) rfl (ct_181 rfl lk_7_272 (Or.inl rfl) sh_0 (Nat.le_of_ble_eq_true rfl)) rfl ?_ (fun E hE => ⟨Or.inr ⟨E, (show ∀ E ∈ (["java/lang/IllegalStateException"] : List String), E ∈ (["java/lang/IllegalStateException", "java/util/NoSuchElementException"] : List String) by decide) E hE, rfl⟩, ⟨Fr_rf, hci⟩⟩)
        refine ra_load rfl rfl rfl rfl ?_
        refine ra_getR rfl lk_7_25 (Nat.zero_le _) sh_0 rfl ?_
        refine ra_load rfl rfl rfl rfl ?_
        refine ra_getR rfl lk_7_10 (Nat.zero_le _) sh_0 rfl ?_
        refine ra_cV (sp_62 isD_1 hci) rfl (ct_62 rfl lk_7_260 (Or.inl rfl) sh_40 (Nat.le_of_ble_eq_true rfl)) (fun s15 hs15 => ?_)
        obtain ⟨hf16, he17⟩ := hs15
        have hF18 := Fr_tr (lo := 0) (hi := 175) Fr_rf hf16 (by omega)
        have hci19 : CI s15 := he17
        refine ra_load rfl rfl rfl rfl ?_
        refine ra_getI rfl lk_7_144 (Nat.zero_le _) (sh_P isD_1 hj2) rfl ?_
        refine ra_gen (fun z20 hz20 => ?_)
        refine ra_load rfl rfl rfl rfl ?_
        refine ra_getI rfl lk_7_144 (Nat.zero_le _) (sh_P isD_1 hj5) rfl ?_
        refine ra_gen (fun z21 hz21 => ?_)
        refine ra_iadd rfl ?_
        refine ra_gen (fun z22 hz22 => ?_)
        refine ra_store (L' := [_, _, _, _, _]) rfl rfl rfl (Nat.le_of_ble_eq_true rfl) rfl ?_
        refine ra_load rfl rfl rfl rfl ?_
        refine ra_iconst rfl ?_
        refine ra_putI rfl lk_7_144 (Nat.zero_le _) (sh_P isD_1 hj5) rfl rfl ?_
        refine ra_new Fr_up (fun s23 hs23 => ?_)
        have hF24 := Fr_tr (lo := 0) (hi := 175) hF18 hs23 (by omega)
        have hci25 : CI s23 := CI_fr hci19 hs23 (by omega)
        refine ra_load rfl rfl rfl rfl ?_
        refine ra_getR rfl lk_7_10 (Nat.zero_le _) sh_0 rfl ?_
        refine ra_load rfl rfl rfl rfl ?_
        refine ra_load rfl rfl rfl rfl ?_
        refine ra_cV (sp_34 isD_1 hj2 hz22) rfl (ct_34 rfl lk_7_283 (Or.inl rfl) (sh_D isD_1) (Nat.le_of_ble_eq_true rfl)) (fun s26 hs26 => ?_)
        have hF27 := Fr_tr (lo := 0) (hi := 175) hF24 hs26 (by omega)
        have hci28 : CI s26 := CI_fr hci25 hs26 (by omega)
        refine ra_load rfl rfl rfl rfl ?_
        refine ra_getK rfl lk_7_190 (Nat.zero_le _) (sh_P isD_1 hj5) rfl ?_
        exact ra_ireturn rfl rfl ⟨Or.inl (⟨_, (by first | omega | (unfold ra_in at *; omega)), rfl⟩), ⟨hF27, hci28⟩⟩
      · exact ra_throw (E := "java/lang/IllegalStateException") rfl lk_7_267 (by decide +kernel) (fun _ => rfl) ⟨Or.inr ⟨_, by simp, rfl⟩, ⟨Fr_rf, hci⟩⟩
    · exact ra_throw (E := "java/lang/IllegalStateException") rfl lk_7_267 (by decide +kernel) (fun _ => rfl) ⟨Or.inr ⟨_, by simp, rfl⟩, ⟨Fr_rf, hci⟩⟩
theorem lp_152_27 {n : Nat} {f : Nat → Int32} {d : Nat}  {σ : ra_V} (hci : CI σ) : ∀ (nn : Nat) (v1 : Int) (v4 : Int) (s : ra_V) (hv1 : ra_in v1) (hv4_0 : 0 ≤ v4) (hv4_1 : v4 ≤ 8) (hF : Fr (0) (175) σ s) (hcs : CI s) (hm : ((8 - v4 : Int)).toNat < nn), ra_P (g_Gs n f) g_sh 0 (d + 3) g_m_X7_shrinkAll 27 [some (.index (0)), some (ra_I v1), some (.index (1 + 2)), some (ra_I ((8 : Nat) : Int)), some (ra_I v4), none] [] s (fun r s => rI r ∧ Fr (0) (175) σ s ∧ CI s) := by
  intro nn
  induction nn with
  | zero => intro v1 v4 s hv1 hv4_0 hv4_1 hF hcs hm; exact absurd hm (Nat.not_lt_zero _)
  | succ nn ih =>
    intro v1 v4 s hv1 hv4_0 hv4_1 hF hcs hm
    refine ra_load rfl rfl rfl rfl ?_
    refine ra_load rfl rfl rfl rfl ?_
    refine ra_icge rfl rfl (by first | omega | (unfold ra_in at *; omega)) (by first | omega | (unfold ra_in at *; omega)) (fun h6 => ?_) (fun h6 => ?_)
    · refine ra_load rfl rfl rfl rfl ?_
      exact ra_ireturn rfl rfl ⟨⟨_, hv1, rfl⟩, ⟨hF, hcs⟩⟩
    · refine ra_load rfl rfl rfl rfl ?_
      refine ra_load rfl rfl rfl rfl ?_
      refine ra_aaload rfl (sh_D2 isD_1) rfl (by decide) (by first | omega | (unfold ra_in at *; omega)) (by first | omega | (unfold ra_in at *; omega)) (sh_pt (by first | omega | (unfold ra_in at *; omega)) (by first | omega | (unfold ra_in at *; omega))) rfl ?_
      have hi7 : v4.toNat < 8 := (by first | omega | (unfold ra_in at *; omega))
      refine ra_store (L' := [_, _, _, _, _, _]) rfl rfl rfl (Nat.le_of_ble_eq_true rfl) rfl ?_
      refine ra_load rfl rfl rfl rfl ?_
      refine ra_getR rfl lk_7_10 (Nat.zero_le _) sh_0 rfl ?_
      refine ra_load rfl rfl rfl rfl ?_
      refine ra_cBp (sp_8 isD_1 hi7) rfl (ct_8 rfl lk_7_207 (Or.inl rfl) (sh_D isD_1) (Nat.le_of_ble_eq_true rfl)) (fun z9 hz9 => ?_)
      refine ra_ifeq rfl rfl (ra_in01 hz9) (fun h10 => ?_) (fun h10 => ?_)
      · refine ra_iinc (L' := [_, _, _, _, _, _]) rfl rfl (Nat.le_of_ble_eq_true rfl) rfl ?_
        refine ra_goto rfl rfl ?_
        exact ra_weak (by repeat' constructor) (ih v1 (v4 + 1) s hv1 (by first | omega | (unfold ra_in at *; omega)) (by first | omega | (unfold ra_in at *; omega)) hF hcs (by first | omega | (unfold ra_in at *; omega)))
      · refine ra_load rfl rfl rfl rfl ?_
        refine ra_load rfl rfl rfl rfl ?_
        refine ra_getI rfl lk_7_144 (Nat.zero_le _) (sh_P isD_1 hi7) rfl ?_
        refine ra_gen (fun z11 hz11 => ?_)
        refine ra_load rfl rfl rfl rfl ?_
        refine ra_getI rfl lk_7_147 (Nat.zero_le _) (sh_P isD_1 hi7) rfl ?_
        refine ra_gen (fun z12 hz12 => ?_)
        refine ra_isub rfl ?_
        refine ra_gen (fun z13 hz13 => ?_)
        refine ra_iadd rfl ?_
        refine ra_gen (fun z14 hz14 => ?_)
        refine ra_store (L' := [_, _, _, _, _, _]) rfl rfl rfl (Nat.le_of_ble_eq_true rfl) rfl ?_
        refine ra_load rfl rfl rfl rfl ?_
        refine ra_load rfl rfl rfl rfl ?_
        refine ra_getI rfl lk_7_147 (Nat.zero_le _) (sh_P isD_1 hi7) rfl ?_
        refine ra_gen (fun z15 hz15 => ?_)
        refine ra_putI rfl lk_7_144 (Nat.zero_le _) (sh_P isD_1 hi7) rfl rfl ?_
        refine ra_new Fr_up (fun s16 hs16 => ?_)
        have hF17 := Fr_tr (lo := 0) (hi := 175) hF hs16 (by omega)
        have hci18 : CI s16 := CI_fr hcs hs16 (by omega)
        refine ra_iinc (L' := [_, _, _, _, _, _]) rfl rfl (Nat.le_of_ble_eq_true rfl) rfl ?_
        refine ra_goto rfl rfl ?_
        exact ra_weak (by repeat' constructor) (ih z14 (v4 + 1) s16 hz14 (by first | omega | (unfold ra_in at *; omega)) (by first | omega | (unfold ra_in at *; omega)) hF17 hci18 (by first | omega | (unfold ra_in at *; omega)))
theorem sp_152 {n : Nat} {f : Nat → Int32} {d : Nat}  {σ : ra_V} (hci : CI σ) : ra_C (g_Gs n f) g_sh 0 (d + 4) 152 [.index (0)] σ (fun r s => rI r ∧ Fr (0) (175) σ s ∧ CI s) := by
  refine ra_enter (nn := 5) mt_152 rfl (Nat.le_of_ble_eq_true rfl) rfl (fun h => absurd h (by decide +kernel)) ?_
  refine ra_load rfl rfl rfl rfl ?_
  refine ra_getR rfl lk_7_25 (Nat.zero_le _) sh_0 rfl ?_
  refine ra_load rfl rfl rfl rfl ?_
  refine ra_getR rfl lk_7_10 (Nat.zero_le _) sh_0 rfl ?_
  refine ra_cV (sp_62 isD_1 hci) rfl (ct_62 rfl lk_7_260 (Or.inl rfl) sh_40 (Nat.le_of_ble_eq_true rfl)) (fun s1 hs1 => ?_)
  obtain ⟨hf2, he3⟩ := hs1
  have hF4 := Fr_tr (lo := 0) (hi := 175) Fr_rf hf2 (by omega)
  have hci5 : CI s1 := he3
  refine ra_iconst rfl ?_
  refine ra_store (L' := [_, _, _, _, _, _]) rfl rfl rfl (Nat.le_of_ble_eq_true rfl) rfl ?_
  refine ra_load rfl rfl rfl rfl ?_
  refine ra_getR rfl lk_7_10 (Nat.zero_le _) sh_0 rfl ?_
  refine ra_getR rfl lk_7_203 (Nat.zero_le _) (sh_D isD_1) rfl ?_
  refine ra_store (L' := [_, _, _, _, _, _]) rfl rfl rfl (Nat.le_of_ble_eq_true rfl) rfl ?_
  refine ra_load rfl rfl rfl rfl ?_
  refine ra_alen rfl (sh_D2 isD_1) rfl ?_
  refine ra_store (L' := [_, _, _, _, _, _]) rfl rfl rfl (Nat.le_of_ble_eq_true rfl) rfl ?_
  refine ra_iconst rfl ?_
  refine ra_store (L' := [_, _, _, _, _, _]) rfl rfl rfl (Nat.le_of_ble_eq_true rfl) rfl ?_
  exact ra_weak (by repeat' constructor) (lp_152_27 hci _ (0) (0) s1 (by first | omega | (unfold ra_in at *; omega)) (by first | omega | (unfold ra_in at *; omega)) (by first | omega | (unfold ra_in at *; omega)) hF4 hci5 (Nat.lt_succ_self _))
theorem sp_153 {n : Nat} {f : Nat → Int32} {d : Nat}  {σ : ra_V} (hci : CI σ) : ra_C (g_Gs n f) g_sh 0 (d + 7) 153 [.index (0)] σ (fun r s => rI r ∧ Fr (0) (175) σ s ∧ CI s) := by
  refine ra_enter (nn := 0) mt_153 rfl (Nat.le_of_ble_eq_true rfl) rfl (fun h => absurd h (by decide +kernel)) ?_
  refine ra_load rfl rfl rfl rfl ?_
  refine ra_getR rfl lk_7_25 (Nat.zero_le _) sh_0 rfl ?_
  refine ra_load rfl rfl rfl rfl ?_
  refine ra_getR rfl lk_7_10 (Nat.zero_le _) sh_0 rfl ?_
  refine ra_cV (sp_62 isD_1 hci) rfl (ct_62 rfl lk_7_260 (Or.inl rfl) sh_40 (Nat.le_of_ble_eq_true rfl)) (fun s1 hs1 => ?_)
  obtain ⟨hf2, he3⟩ := hs1
  have hF4 := Fr_tr (lo := 0) (hi := 175) Fr_rf hf2 (by omega)
  have hci5 : CI s1 := he3
  refine ra_load rfl rfl rfl rfl ?_
  refine ra_getR rfl lk_7_10 (Nat.zero_le _) sh_0 rfl ?_
  refine ra_cI (sp_32 isD_1) rfl (ct_32 rfl lk_7_310 (Or.inl rfl) (sh_D isD_1) (Nat.le_of_ble_eq_true rfl)) (fun z7 s6  hz7 hs6 => ?_)
  have hF8 := Fr_tr (lo := 0) (hi := 175) hF4 hs6 (by omega)
  have hci9 : CI s6 := CI_fr hci5 hs6 (by omega)
  exact ra_ireturn rfl rfl ⟨⟨_, hz7, rfl⟩, ⟨hF8, hci9⟩⟩
theorem sp_159 {n : Nat} {f : Nat → Int32} {d : Nat} {x0 : Int} {x1 : Int} {σ : ra_V} (hx0 : ra_in x0) (hx1 : ra_in x1) (hci : CI σ) : ra_C (g_Gs n f) g_sh 0 (d + 7) 159 [.index (0), ra_I x0, ra_I x1] σ (fun r s => rX ["java/lang/IllegalStateException", "java/util/NoSuchElementException"] rI r ∧ Fr (0) (175) σ s ∧ CI s) := by
  refine ra_enter (nn := 1) mt_159 rfl (Nat.le_of_ble_eq_true rfl) rfl (fun _ => by omega) ?_
  refine ra_load rfl rfl rfl rfl ?_
  refine ra_load rfl rfl rfl rfl ?_
  refine ra_cXNp (sp_176 hx0) rfl (ct_176 rfl lk_7_135 (Or.inl rfl) sh_0 (Nat.le_of_ble_eq_true rfl)) rfl (fun j2 hj2 => ?_) (fun E hE => ⟨Or.inr ⟨E, (show ∀ E ∈ (["java/util/NoSuchElementException"] : List String), E ∈ (["java/lang/IllegalStateException", "java/util/NoSuchElementException"] : List String) by decide) E hE, rfl⟩, ⟨Fr_rf, hci⟩⟩)
  refine ra_store (L' := [_, _, _, _]) rfl rfl rfl (Nat.le_of_ble_eq_true rfl) rfl ?_
  refine ra_load rfl rfl rfl rfl ?_
  refine ra_getR rfl lk_7_10 (Nat.zero_le _) sh_0 rfl ?_
  refine ra_load rfl rfl rfl rfl ?_
  refine ra_load rfl rfl rfl rfl ?_
  refine ra_load rfl rfl rfl rfl ?_
  refine ra_getR rfl lk_7_10 (Nat.zero_le _) sh_0 rfl ?_
  refine ra_getI rfl lk_7_103 (Nat.zero_le _) (sh_D isD_1) rfl ?_
  refine ra_gen (fun z3 hz3 => ?_)
  refine ra_cIp (sp_19 isD_1 hj2 hx1 hz3) rfl (ct_19 rfl lk_7_313 (Or.inl rfl) (sh_D isD_1) (Nat.le_of_ble_eq_true rfl)) (fun z5 hz5 => ?_)
  refine ra_ifeq rfl rfl hz5 (fun h6 => ?_) (fun h6 => ?_)
  · refine ra_load rfl rfl rfl rfl ?_
    refine ra_getR rfl lk_7_25 (Nat.zero_le _) sh_0 rfl ?_
    refine ra_load rfl rfl rfl rfl ?_
    refine ra_getR rfl lk_7_10 (Nat.zero_le _) sh_0 rfl ?_
    refine ra_cV (sp_62 isD_1 hci) rfl (ct_62 rfl lk_7_260 (Or.inl rfl) sh_40 (Nat.le_of_ble_eq_true rfl)) (fun s7 hs7 => ?_)
    obtain ⟨hf8, he9⟩ := hs7
    have hF10 := Fr_tr (lo := 0) (hi := 175) Fr_rf hf8 (by omega)
    have hci11 : CI s7 := he9
    refine ra_load rfl rfl rfl rfl ?_
    refine ra_getR rfl lk_7_10 (Nat.zero_le _) sh_0 rfl ?_
    refine ra_load rfl rfl rfl rfl ?_
    refine ra_load rfl rfl rfl rfl ?_
    refine ra_cV (sp_36 isD_1 hj2 hx1) rfl (ct_36 rfl lk_7_328 (Or.inl rfl) (sh_D isD_1) (Nat.le_of_ble_eq_true rfl)) (fun s12 hs12 => ?_)
    have hF13 := Fr_tr (lo := 0) (hi := 175) hF10 hs12 (by omega)
    have hci14 : CI s12 := CI_fr hci11 hs12 (by omega)
    refine ra_load rfl rfl rfl rfl ?_
    refine ra_getR rfl lk_7_10 (Nat.zero_le _) sh_0 rfl ?_
    refine ra_getR rfl lk_7_331 (Nat.zero_le _) (sh_D isD_1) rfl ?_
    refine ra_cIp (sp_79 isD_1) rfl (ct_79 rfl lk_7_335 (Or.inl rfl) (sh_D3 isD_1) (Nat.le_of_ble_eq_true rfl)) (fun z16 hz16 => ?_)
    exact ra_ireturn rfl rfl ⟨Or.inl (⟨_, hz16, rfl⟩), ⟨hF13, hci14⟩⟩
  · exact ra_throw (E := "java/lang/IllegalStateException") rfl lk_7_267 (by decide +kernel) (fun _ => rfl) ⟨Or.inr ⟨_, by simp, rfl⟩, ⟨Fr_rf, hci⟩⟩
theorem sp_160 {n : Nat} {f : Nat → Int32} {d : Nat} {x0 : Int} {σ : ra_V} (hx0 : ra_in x0) (hci : CI σ) : ra_C (g_Gs n f) g_sh 0 (d + 7) 160 [.index (0), ra_I x0] σ (fun r s => rX ["java/lang/IllegalArgumentException", "java/lang/IllegalStateException"] rI r ∧ Fr (0) (175) σ s ∧ CI s) := by
  refine ra_enter (nn := 0) mt_160 rfl (Nat.le_of_ble_eq_true rfl) rfl (fun _ => by omega) ?_
  refine ra_load rfl rfl rfl rfl ?_
  refine ra_iconst rfl ?_
  refine ra_iclt rfl rfl hx0 (by first | omega | (unfold ra_in at *; omega)) (fun h1 => ?_) (fun h1 => ?_)
  · exact ra_throw (E := "java/lang/IllegalArgumentException") rfl lk_7_128 (by decide +kernel) (fun _ => rfl) ⟨Or.inr ⟨_, by simp, rfl⟩, ⟨Fr_rf, hci⟩⟩
  · refine ra_load rfl rfl rfl rfl ?_
    refine ra_sipush rfl (by decide) ?_
    refine ra_icle rfl rfl hx0 (by first | omega | (unfold ra_in at *; omega)) (fun h2 => ?_) (fun h2 => ?_)
    · refine ra_load rfl rfl rfl rfl ?_
      refine ra_cXVp (sp_183 ) rfl (ct_183 rfl lk_7_342 (Or.inl rfl) sh_0 (Nat.le_of_ble_eq_true rfl)) rfl ?_ (fun E hE => ⟨Or.inr ⟨E, (show ∀ E ∈ (["java/lang/IllegalStateException"] : List String), E ∈ (["java/lang/IllegalArgumentException", "java/lang/IllegalStateException"] : List String) by decide) E hE, rfl⟩, ⟨Fr_rf, hci⟩⟩)
      refine ra_load rfl rfl rfl rfl ?_
      refine ra_getR rfl lk_7_25 (Nat.zero_le _) sh_0 rfl ?_
      refine ra_load rfl rfl rfl rfl ?_
      refine ra_getR rfl lk_7_10 (Nat.zero_le _) sh_0 rfl ?_
      refine ra_cV (sp_62 isD_1 hci) rfl (ct_62 rfl lk_7_260 (Or.inl rfl) sh_40 (Nat.le_of_ble_eq_true rfl)) (fun s4 hs4 => ?_)
      obtain ⟨hf5, he6⟩ := hs4
      have hF7 := Fr_tr (lo := 0) (hi := 175) Fr_rf hf5 (by omega)
      have hci8 : CI s4 := he6
      refine ra_load rfl rfl rfl rfl ?_
      refine ra_getR rfl lk_7_10 (Nat.zero_le _) sh_0 rfl ?_
      refine ra_load rfl rfl rfl rfl ?_
      refine ra_cI (sp_37 isD_1 hx0) rfl (ct_37 rfl lk_7_345 (Or.inl rfl) (sh_D isD_1) (Nat.le_of_ble_eq_true rfl)) (fun z10 s9  hz10 hs9 => ?_)
      have hF11 := Fr_tr (lo := 0) (hi := 175) hF7 hs9 (by omega)
      have hci12 : CI s9 := CI_fr hci8 hs9 (by omega)
      exact ra_ireturn rfl rfl ⟨Or.inl (⟨_, hz10, rfl⟩), ⟨hF11, hci12⟩⟩
    · exact ra_throw (E := "java/lang/IllegalArgumentException") rfl lk_7_128 (by decide +kernel) (fun _ => rfl) ⟨Or.inr ⟨_, by simp, rfl⟩, ⟨Fr_rf, hci⟩⟩
theorem sp_161 {n : Nat} {f : Nat → Int32} {d : Nat}  {σ : ra_V} (hci : CI σ) : ra_C (g_Gs n f) g_sh 0 (d + 7) 161 [.index (0)] σ (fun r s => rX ["java/lang/IllegalStateException"] rI r ∧ Fr (0) (175) σ s ∧ CI s) := by
  refine ra_enter (nn := 0) mt_161 rfl (Nat.le_of_ble_eq_true rfl) rfl (fun h => absurd h (by decide +kernel)) ?_
  refine ra_load rfl rfl rfl rfl ?_
  refine ra_cXVp (sp_183 ) rfl (ct_183 rfl lk_7_342 (Or.inl rfl) sh_0 (Nat.le_of_ble_eq_true rfl)) rfl ?_ (fun E hE => ⟨Or.inr ⟨E, (show ∀ E ∈ (["java/lang/IllegalStateException"] : List String), E ∈ (["java/lang/IllegalStateException"] : List String) by decide) E hE, rfl⟩, ⟨Fr_rf, hci⟩⟩)
  refine ra_load rfl rfl rfl rfl ?_
  refine ra_getR rfl lk_7_25 (Nat.zero_le _) sh_0 rfl ?_
  refine ra_load rfl rfl rfl rfl ?_
  refine ra_getR rfl lk_7_10 (Nat.zero_le _) sh_0 rfl ?_
  refine ra_cV (sp_62 isD_1 hci) rfl (ct_62 rfl lk_7_260 (Or.inl rfl) sh_40 (Nat.le_of_ble_eq_true rfl)) (fun s2 hs2 => ?_)
  obtain ⟨hf3, he4⟩ := hs2
  have hF5 := Fr_tr (lo := 0) (hi := 175) Fr_rf hf3 (by omega)
  have hci6 : CI s2 := he4
  refine ra_load rfl rfl rfl rfl ?_
  refine ra_getR rfl lk_7_10 (Nat.zero_le _) sh_0 rfl ?_
  refine ra_cI (sp_39 isD_1) rfl (ct_39 rfl lk_7_348 (Or.inl rfl) (sh_D isD_1) (Nat.le_of_ble_eq_true rfl)) (fun z8 s7  hz8 hs7 => ?_)
  have hF9 := Fr_tr (lo := 0) (hi := 175) hF5 hs7 (by omega)
  have hci10 : CI s7 := CI_fr hci6 hs7 (by omega)
  exact ra_ireturn rfl rfl ⟨Or.inl (⟨_, hz8, rfl⟩), ⟨hF9, hci10⟩⟩
theorem sp_162 {n : Nat} {f : Nat → Int32} {d : Nat}  {σ : ra_V} (hci : CI σ) : ra_C (g_Gs n f) g_sh 0 (d + 7) 162 [.index (0)] σ (fun r s => rX ["java/lang/IllegalStateException"] rI r ∧ Fr (0) (175) σ s ∧ CI s) := by
  refine ra_enter (nn := 0) mt_162 rfl (Nat.le_of_ble_eq_true rfl) rfl (fun _ => by omega) ?_
  refine ra_load rfl rfl rfl rfl ?_
  refine ra_cXVp (sp_183 ) rfl (ct_183 rfl lk_7_342 (Or.inl rfl) sh_0 (Nat.le_of_ble_eq_true rfl)) rfl ?_ (fun E hE => ⟨Or.inr ⟨E, (show ∀ E ∈ (["java/lang/IllegalStateException"] : List String), E ∈ (["java/lang/IllegalStateException"] : List String) by decide) E hE, rfl⟩, ⟨Fr_rf, hci⟩⟩)
  refine ra_load rfl rfl rfl rfl ?_
  refine ra_getR rfl lk_7_10 (Nat.zero_le _) sh_0 rfl ?_
  refine ra_getR rfl lk_7_331 (Nat.zero_le _) (sh_D isD_1) rfl ?_
  refine ra_getBw rfl lk_7_351 (Nat.zero_le _) (sh_D3 isD_1) rfl (fun z2 hz2 => ?_)
  refine ra_ifeq rfl rfl (ra_in01 hz2) (fun h3 => ?_) (fun h3 => ?_)
  · refine ra_load rfl rfl rfl rfl ?_
    refine ra_getR rfl lk_7_25 (Nat.zero_le _) sh_0 rfl ?_
    refine ra_load rfl rfl rfl rfl ?_
    refine ra_getR rfl lk_7_10 (Nat.zero_le _) sh_0 rfl ?_
    refine ra_cV (sp_62 isD_1 hci) rfl (ct_62 rfl lk_7_260 (Or.inl rfl) sh_40 (Nat.le_of_ble_eq_true rfl)) (fun s4 hs4 => ?_)
    obtain ⟨hf5, he6⟩ := hs4
    have hF7 := Fr_tr (lo := 0) (hi := 175) Fr_rf hf5 (by omega)
    have hci8 : CI s4 := he6
    refine ra_load rfl rfl rfl rfl ?_
    refine ra_getR rfl lk_7_10 (Nat.zero_le _) sh_0 rfl ?_
    refine ra_cV (sp_42 isD_1) rfl (ct_42 rfl lk_7_356 (Or.inl rfl) (sh_D isD_1) (Nat.le_of_ble_eq_true rfl)) (fun s9 hs9 => ?_)
    have hF10 := Fr_tr (lo := 0) (hi := 175) hF7 hs9 (by omega)
    have hci11 : CI s9 := CI_fr hci8 hs9 (by omega)
    refine ra_load rfl rfl rfl rfl ?_
    refine ra_getR rfl lk_7_10 (Nat.zero_le _) sh_0 rfl ?_
    refine ra_getR rfl lk_7_331 (Nat.zero_le _) (sh_D isD_1) rfl ?_
    refine ra_cIp (sp_79 isD_1) rfl (ct_79 rfl lk_7_335 (Or.inl rfl) (sh_D3 isD_1) (Nat.le_of_ble_eq_true rfl)) (fun z13 hz13 => ?_)
    exact ra_ireturn rfl rfl ⟨Or.inl (⟨_, hz13, rfl⟩), ⟨hF10, hci11⟩⟩
  · exact ra_throw (E := "java/lang/IllegalStateException") rfl lk_7_267 (by decide +kernel) (fun _ => rfl) ⟨Or.inr ⟨_, by simp, rfl⟩, ⟨Fr_rf, hci⟩⟩
theorem sp_167 {n : Nat} {f : Nat → Int32} {d : Nat}  {σ : ra_V} (hci : CI σ) : ra_C (g_Gs n f) g_sh 0 (d + 8) 167 [.index (0)] σ (fun r s => rX ["java/lang/IllegalStateException"] rI r ∧ Fr (0) (175) σ s ∧ CI s) := by
  refine ra_enter (nn := 0) mt_167 rfl (Nat.le_of_ble_eq_true rfl) rfl (fun h => absurd h (by decide +kernel)) ?_
  refine ra_load rfl rfl rfl rfl ?_
  refine ra_cXVp (sp_184 ) rfl (ct_184 rfl lk_7_405 (Or.inl rfl) sh_0 (Nat.le_of_ble_eq_true rfl)) rfl ?_ (fun E hE => ⟨Or.inr ⟨E, (show ∀ E ∈ (["java/lang/IllegalStateException"] : List String), E ∈ (["java/lang/IllegalStateException"] : List String) by decide) E hE, rfl⟩, ⟨Fr_rf, hci⟩⟩)
  refine ra_load rfl rfl rfl rfl ?_
  refine ra_getR rfl lk_7_25 (Nat.zero_le _) sh_0 rfl ?_
  refine ra_load rfl rfl rfl rfl ?_
  refine ra_getR rfl lk_7_10 (Nat.zero_le _) sh_0 rfl ?_
  refine ra_cV (sp_62 isD_1 hci) rfl (ct_62 rfl lk_7_260 (Or.inl rfl) sh_40 (Nat.le_of_ble_eq_true rfl)) (fun s2 hs2 => ?_)
  obtain ⟨hf3, he4⟩ := hs2
  have hF5 := Fr_tr (lo := 0) (hi := 175) Fr_rf hf3 (by omega)
  have hci6 : CI s2 := he4
  refine ra_load rfl rfl rfl rfl ?_
  refine ra_getR rfl lk_7_10 (Nat.zero_le _) sh_0 rfl ?_
  refine ra_cI (sp_45 isD_1) rfl (ct_45 rfl lk_7_408 (Or.inl rfl) (sh_D isD_1) (Nat.le_of_ble_eq_true rfl)) (fun z8 s7  hz8 hs7 => ?_)
  have hF9 := Fr_tr (lo := 0) (hi := 175) hF5 hs7 (by omega)
  have hci10 : CI s7 := CI_fr hci6 hs7 (by omega)
  exact ra_ireturn rfl rfl ⟨Or.inl (⟨_, hz8, rfl⟩), ⟨hF9, hci10⟩⟩
theorem sp_168 {n : Nat} {f : Nat → Int32} {d : Nat}  {σ : ra_V} (hci : CI σ) : ra_C (g_Gs n f) g_sh 0 (d + 8) 168 [.index (0)] σ (fun r s => rI r ∧ Fr (0) (175) σ s ∧ CI s) := by
  refine ra_enter (nn := 0) mt_168 rfl (Nat.le_of_ble_eq_true rfl) rfl (fun h => absurd h (by decide +kernel)) ?_
  refine ra_load rfl rfl rfl rfl ?_
  refine ra_getR rfl lk_7_10 (Nat.zero_le _) sh_0 rfl ?_
  refine ra_getR rfl lk_7_331 (Nat.zero_le _) (sh_D isD_1) rfl ?_
  refine ra_cBp (sp_67 isD_1) rfl (ct_67 rfl lk_7_359 (Or.inl rfl) (sh_D3 isD_1) (Nat.le_of_ble_eq_true rfl)) (fun z2 hz2 => ?_)
  refine ra_ifeq rfl rfl (ra_in01 hz2) (fun h3 => ?_) (fun h3 => ?_)
  · refine ra_load rfl rfl rfl rfl ?_
    refine ra_getR rfl lk_7_16 (Nat.zero_le _) sh_0 rfl ?_
    refine ra_load rfl rfl rfl rfl ?_
    refine ra_getR rfl lk_7_10 (Nat.zero_le _) sh_0 rfl ?_
    refine ra_cV (sp_2 isD_14 isD_1) rfl (ct_2 rfl lk_7_69 (Or.inl rfl) (sh_D isD_14) (Nat.le_of_ble_eq_true rfl)) (fun s4 hs4 => ?_)
    have hF5 := Fr_tr (lo := 0) (hi := 175) Fr_rf hs4 (by omega)
    have hci6 : CI s4 := CI_fr hci hs4 (by omega)
    refine ra_load rfl rfl rfl rfl ?_
    refine ra_getR rfl lk_7_16 (Nat.zero_le _) sh_0 rfl ?_
    refine ra_cI (sp_45 isD_14) rfl (ct_45 rfl lk_7_408 (Or.inl rfl) (sh_D isD_14) (Nat.le_of_ble_eq_true rfl)) (fun z8 s7  hz8 hs7 => ?_)
    have hF9 := Fr_tr (lo := 0) (hi := 175) hF5 hs7 (by omega)
    have hci10 : CI s7 := CI_fr hci6 hs7 (by omega)
    refine ra_pop rfl rfl ?_
    refine ra_load rfl rfl rfl rfl ?_
    refine ra_getR rfl lk_7_16 (Nat.zero_le _) sh_0 rfl ?_
    refine ra_getI rfl lk_7_116 (Nat.zero_le _) (sh_D isD_14) rfl ?_
    refine ra_gen (fun z11 hz11 => ?_)
    refine ra_load rfl rfl rfl rfl ?_
    refine ra_getR rfl lk_7_10 (Nat.zero_le _) sh_0 rfl ?_
    refine ra_getI rfl lk_7_116 (Nat.zero_le _) (sh_D isD_1) rfl ?_
    refine ra_gen (fun z12 hz12 => ?_)
    refine ra_isub rfl ?_
    refine ra_gen (fun z13 hz13 => ?_)
    exact ra_ireturn rfl rfl ⟨⟨_, hz13, rfl⟩, ⟨hF9, hci10⟩⟩
  · refine ra_iconst rfl ?_
    exact ra_ireturn rfl rfl ⟨⟨_, (by first | omega | (unfold ra_in at *; omega)), rfl⟩, ⟨Fr_rf, hci⟩⟩
theorem sp_172 {n : Nat} {f : Nat → Int32} {d : Nat}  {σ : ra_V} (hci : CI σ) : ra_C (g_Gs n f) g_sh 0 (d + 4) 172 [.index (0)] σ (fun r s => rI r ∧ Fr (0) (175) σ s ∧ CI s) := by
  refine ra_enter (nn := 0) mt_172 rfl (Nat.le_of_ble_eq_true rfl) rfl (fun h => absurd h (by decide +kernel)) ?_
  refine ra_load rfl rfl rfl rfl ?_
  refine ra_getR rfl lk_7_25 (Nat.zero_le _) sh_0 rfl ?_
  refine ra_load rfl rfl rfl rfl ?_
  refine ra_getR rfl lk_7_10 (Nat.zero_le _) sh_0 rfl ?_
  refine ra_cB (sp_63 isD_1 (by first | assumption | rfl | omega) hci) rfl (ct_63 rfl lk_7_432 (Or.inl rfl) sh_40 (Nat.le_of_ble_eq_true rfl)) (fun z2 s1  hz2 hs1 => ?_)
  obtain ⟨hf3, he4⟩ := hs1
  have hF5 := Fr_tr (lo := 0) (hi := 175) Fr_rf hf3 (by omega)
  have hci6 : CI s1 := he4
  refine ra_ifeq rfl rfl (ra_in01 hz2) (fun h7 => ?_) (fun h7 => ?_)
  · refine ra_iconst rfl ?_
    exact ra_ireturn rfl rfl ⟨⟨_, (by first | omega | (unfold ra_in at *; omega)), rfl⟩, ⟨hF5, hci6⟩⟩
  · refine ra_load rfl rfl rfl rfl ?_
    refine ra_getR rfl lk_7_25 (Nat.zero_le _) sh_0 rfl ?_
    refine ra_getI rfl lk_7_125 (Nat.zero_le _) sh_40 rfl ?_
    refine ra_gen (fun z8 hz8 => ?_)
    refine ra_goto rfl rfl ?_
    exact ra_ireturn rfl rfl ⟨⟨_, hz8, rfl⟩, ⟨hF5, hci6⟩⟩
theorem sp_173 {n : Nat} {f : Nat → Int32} {d : Nat}  {σ : ra_V} (hci : CI σ) : ra_C (g_Gs n f) g_sh 0 (d + 3) 173 [.index (0)] σ (fun r s => rI r ∧ Fr (0) (175) σ s ∧ CI s) := by
  refine ra_enter (nn := 0) mt_173 rfl (Nat.le_of_ble_eq_true rfl) rfl (fun h => absurd h (by decide +kernel)) ?_
  refine ra_load rfl rfl rfl rfl ?_
  refine ra_getR rfl lk_7_19 (Nat.zero_le _) sh_0 rfl ?_
  refine ra_load rfl rfl rfl rfl ?_
  refine ra_getR rfl lk_7_10 (Nat.zero_le _) sh_0 rfl ?_
  refine ra_cV (sp_2 isD_27 isD_1) rfl (ct_2 rfl lk_7_69 (Or.inl rfl) (sh_D isD_27) (Nat.le_of_ble_eq_true rfl)) (fun s1 hs1 => ?_)
  have hF2 := Fr_tr (lo := 0) (hi := 175) Fr_rf hs1 (by omega)
  have hci3 : CI s1 := CI_fr hci hs1 (by omega)
  refine ra_load rfl rfl rfl rfl ?_
  refine ra_iconst rfl ?_
  refine ra_putB rfl lk_7_76 (Nat.zero_le _) sh_0 rfl rfl (Or.inr rfl) ?_
  refine ra_new Fr_up (fun s4 hs4 => ?_)
  have hF5 := Fr_tr (lo := 0) (hi := 175) hF2 hs4 (by omega)
  have hci6 : CI s4 := CI_fr hci3 hs4 (by omega)
  refine ra_load rfl rfl rfl rfl ?_
  refine ra_getR rfl lk_7_10 (Nat.zero_le _) sh_0 rfl ?_
  refine ra_cIp (sp_4 isD_1) rfl (ct_4 rfl lk_7_83 (Or.inl rfl) (sh_D isD_1) (Nat.le_of_ble_eq_true rfl)) (fun z8 hz8 => ?_)
  exact ra_ireturn rfl rfl ⟨⟨_, hz8, rfl⟩, ⟨hF5, hci6⟩⟩
theorem sp_174 {n : Nat} {f : Nat → Int32} {d : Nat}  {σ : ra_V} (hci : CI σ) : ra_C (g_Gs n f) g_sh 0 (d + 6) 174 [.index (0)] σ (fun r s => rX ["java/lang/IllegalStateException"] rI r ∧ Fr (0) (175) σ s ∧ CI s) := by
  refine ra_enter (nn := 0) mt_174 rfl (Nat.le_of_ble_eq_true rfl) rfl (fun _ => by omega) ?_
  refine ra_load rfl rfl rfl rfl ?_
  refine ra_getBw rfl lk_7_76 (Nat.zero_le _) sh_0 rfl (fun z1 hz1 => ?_)
  refine ra_ifne rfl rfl (ra_in01 hz1) (fun h2 => ?_) (fun h2 => ?_)
  · refine ra_load rfl rfl rfl rfl ?_
    refine ra_getR rfl lk_7_10 (Nat.zero_le _) sh_0 rfl ?_
    refine ra_load rfl rfl rfl rfl ?_
    refine ra_getR rfl lk_7_19 (Nat.zero_le _) sh_0 rfl ?_
    refine ra_cV (sp_2 isD_1 isD_27) rfl (ct_2 rfl lk_7_69 (Or.inl rfl) (sh_D isD_1) (Nat.le_of_ble_eq_true rfl)) (fun s3 hs3 => ?_)
    have hF4 := Fr_tr (lo := 0) (hi := 175) Fr_rf hs3 (by omega)
    have hci5 : CI s3 := CI_fr hci hs3 (by omega)
    refine ra_load rfl rfl rfl rfl ?_
    refine ra_getR rfl lk_7_25 (Nat.zero_le _) sh_0 rfl ?_
    refine ra_cV (sp_64 hci5) rfl (ct_64 rfl lk_7_73 (Or.inl rfl) sh_40 (Nat.le_of_ble_eq_true rfl)) (fun s6 hs6 => ?_)
    obtain ⟨hf7, he8⟩ := hs6
    have hF9 := Fr_tr (lo := 0) (hi := 175) hF4 hf7 (by omega)
    have hci10 : CI s6 := he8
    refine ra_load rfl rfl rfl rfl ?_
    refine ra_getR rfl lk_7_10 (Nat.zero_le _) sh_0 rfl ?_
    refine ra_cIp (sp_4 isD_1) rfl (ct_4 rfl lk_7_83 (Or.inl rfl) (sh_D isD_1) (Nat.le_of_ble_eq_true rfl)) (fun z12 hz12 => ?_)
    exact ra_ireturn rfl rfl ⟨Or.inl (⟨_, hz12, rfl⟩), ⟨hF9, hci10⟩⟩
  · exact ra_throw (E := "java/lang/IllegalStateException") rfl lk_7_267 (by decide +kernel) (fun _ => rfl) ⟨Or.inr ⟨_, by simp, rfl⟩, ⟨Fr_rf, hci⟩⟩
theorem lp_169_85 {n : Nat} {f : Nat → Int32} {d : Nat} {x0 : Int} {σ : ra_V} (hx0 : ra_in x0) (hci : CI σ) {nn62 : Nat} (ih62 : ∀ (v2 : Int) (v3 : Int) (v6 : Int) (s : ra_V) (hv2 : ra_in v2) (hv3 : ra_in v3) (hv6_0 : 0 ≤ v6) (hv6_1 : v6 ≤ 8) (hF : Fr (0) (175) σ s) (hcs : CI s) (hm : ((8 - v6 : Int)).toNat < nn62), ra_P (g_Gs n f) g_sh 0 (d + 6) g_m_X7_cheapestMove 62 [some (.index (0)), some (ra_I x0), some (ra_I v2), some (ra_I v3), some (.index (1 + 2)), some (ra_I ((8 : Nat) : Int)), some (ra_I v6), none, none, none] [] s (fun r s => rX ["java/lang/IllegalArgumentException", "java/lang/IllegalStateException"] rI r ∧ Fr (0) (175) σ s ∧ CI s)) : ∀ (nn : Nat) (v2 : Int) (v3 : Int) (v6 : Int) (q7 : Nat) (v8 : Int) (s : ra_V) (hv2 : ra_in v2) (hv3 : ra_in v3) (hv6_0 : 0 ≤ v6) (hv6_1 : v6 < 8) (hq7 : q7 < 8) (hv8_0 : ra_in v8) (hF : Fr (0) (175) σ s) (hcs : CI s) (hm0 : (8 - (v6 + 1)).toNat < nn62) (hm : ((2147483647 - v8 : Int)).toNat < nn), ra_P (g_Gs n f) g_sh 0 (d + 6) g_m_X7_cheapestMove 85 [some (.index (0)), some (ra_I x0), some (ra_I v2), some (ra_I v3), some (.index (1 + 2)), some (ra_I ((8 : Nat) : Int)), some (ra_I v6), some (.index (1 + 5 + q7)), some (ra_I v8), none] [] s (fun r s => rX ["java/lang/IllegalArgumentException", "java/lang/IllegalStateException"] rI r ∧ Fr (0) (175) σ s ∧ CI s) := by
  intro nn
  induction nn with
  | zero => intro v2 v3 v6 q7 v8 s hv2 hv3 hv6_0 hv6_1 hq7 hv8_0 hF hcs hm0 hm; exact absurd hm (Nat.not_lt_zero _)
  | succ nn ih =>
    intro v2 v3 v6 q7 v8 s hv2 hv3 hv6_0 hv6_1 hq7 hv8_0 hF hcs hm0 hm
    refine ra_load rfl rfl rfl rfl ?_
    refine ra_getR rfl lk_7_10 (Nat.zero_le _) sh_0 rfl ?_
    refine ra_load rfl rfl rfl rfl ?_
    refine ra_cBp (sp_8 isD_1 hq7) rfl (ct_8 rfl lk_7_207 (Or.inl rfl) (sh_D isD_1) (Nat.le_of_ble_eq_true rfl)) (fun z14 hz14 => ?_)
    refine ra_ifeq rfl rfl (ra_in01 hz14) (fun h15 => ?_) (fun h15 => ?_)
    · refine ra_iinc (L' := [_, _, _, _, _, _, _, _, _, _]) rfl rfl (Nat.le_of_ble_eq_true rfl) rfl ?_
      refine ra_goto rfl rfl ?_
      exact ra_weak (by repeat' constructor) (ih62 v2 v3 (v6 + 1) s hv2 hv3 (by first | omega | (unfold ra_in at *; omega)) (by first | omega | (unfold ra_in at *; omega)) hF hcs (by first | omega | (unfold ra_in at *; omega)))
    · refine ra_load rfl rfl rfl rfl ?_
      refine ra_load rfl rfl rfl rfl ?_
      refine ra_getR rfl lk_7_10 (Nat.zero_le _) sh_0 rfl ?_
      refine ra_cIp (sp_9 isD_1) rfl (ct_9 rfl lk_7_197 (Or.inl rfl) (sh_D isD_1) (Nat.le_of_ble_eq_true rfl)) (fun z17 hz17 => ?_)
      refine ra_icge rfl rfl (by first | omega | (unfold ra_in at *; omega)) hz17 (fun h18 => ?_) (fun h18 => ?_)
      · refine ra_iinc (L' := [_, _, _, _, _, _, _, _, _, _]) rfl rfl (Nat.le_of_ble_eq_true rfl) rfl ?_
        refine ra_goto rfl rfl ?_
        exact ra_weak (by repeat' constructor) (ih62 v2 v3 (v6 + 1) s hv2 hv3 (by first | omega | (unfold ra_in at *; omega)) (by first | omega | (unfold ra_in at *; omega)) hF hcs (by first | omega | (unfold ra_in at *; omega)))
      · refine ra_load rfl rfl rfl rfl ?_
        refine ra_getR rfl lk_7_10 (Nat.zero_le _) sh_0 rfl ?_
        refine ra_load rfl rfl rfl rfl ?_
        refine ra_load rfl rfl rfl rfl ?_
        refine ra_load rfl rfl rfl rfl ?_
        refine ra_cBp (sp_46 isD_1 hq7 (by first | omega | (unfold ra_in at *; omega)) hx0) rfl (ct_46 rfl lk_7_414 (Or.inl rfl) (sh_D isD_1) (Nat.le_of_ble_eq_true rfl)) (fun z20 hz20 => ?_)
        refine ra_ifeq rfl rfl (ra_in01 hz20) (fun h21 => ?_) (fun h21 => ?_)
        · refine ra_iconst rfl ?_
          refine ra_store (L' := [_, _, _, _, _, _, _, _, _, _]) rfl rfl rfl (Nat.le_of_ble_eq_true rfl) rfl ?_
          refine ra_load rfl rfl rfl rfl ?_
          refine ra_iflt rfl rfl (by first | omega | (unfold ra_in at *; omega)) (fun h22 => ?_) (fun h22 => ?_)
          · refine ra_iinc (L' := [_, _, _, _, _, _, _, _, _, _]) rfl rfl (Nat.le_of_ble_eq_true rfl) rfl ?_
            refine ra_goto rfl rfl ?_
            exact ra_weak (by repeat' constructor) (ih v2 v3 v6 q7 (v8 + 1) s hv2 hv3 (by first | omega | (unfold ra_in at *; omega)) (by first | omega | (unfold ra_in at *; omega)) hq7 (by first | omega | (unfold ra_in at *; omega)) hF hcs (by omega) (by first | omega | (unfold ra_in at *; omega)))
          · exact absurd h22 (by decide)
        · refine ra_load rfl rfl rfl rfl ?_
          refine ra_getR rfl lk_7_10 (Nat.zero_le _) sh_0 rfl ?_
          refine ra_load rfl rfl rfl rfl ?_
          refine ra_load rfl rfl rfl rfl ?_
          refine ra_load rfl rfl rfl rfl ?_
          refine ra_getR rfl lk_7_10 (Nat.zero_le _) sh_0 rfl ?_
          refine ra_getI rfl lk_7_103 (Nat.zero_le _) (sh_D isD_1) rfl ?_
          refine ra_gen (fun z23 hz23 => ?_)
          refine ra_cIp (sp_35 isD_1 hq7 (by first | omega | (unfold ra_in at *; omega)) hz23) rfl (ct_35 rfl lk_7_317 (Or.inl rfl) (sh_D isD_1) (Nat.le_of_ble_eq_true rfl)) (fun z25 hz25 => ?_)
          refine ra_goto rfl rfl ?_
          refine ra_store (L' := [_, _, _, _, _, _, _, _, _, _]) rfl rfl rfl (Nat.le_of_ble_eq_true rfl) rfl ?_
          refine ra_load rfl rfl rfl rfl ?_
          refine ra_iflt rfl rfl hz25 (fun h26 => ?_) (fun h26 => ?_)
          · refine ra_iinc (L' := [_, _, _, _, _, _, _, _, _, _]) rfl rfl (Nat.le_of_ble_eq_true rfl) rfl ?_
            refine ra_goto rfl rfl ?_
            exact ra_weak (by repeat' constructor) (ih v2 v3 v6 q7 (v8 + 1) s hv2 hv3 (by first | omega | (unfold ra_in at *; omega)) (by first | omega | (unfold ra_in at *; omega)) hq7 (by first | omega | (unfold ra_in at *; omega)) hF hcs (by omega) (by first | omega | (unfold ra_in at *; omega)))
          · refine ra_load rfl rfl rfl rfl ?_
            refine ra_iflt rfl rfl hv2 (fun h27 => ?_) (fun h27 => ?_)
            · refine ra_sipush rfl (by decide) ?_
              refine ra_load rfl rfl rfl rfl ?_
              refine ra_getK rfl lk_7_190 (Nat.zero_le _) (sh_P isD_1 hq7) rfl ?_
              refine ra_imul rfl ?_
              refine ra_gen (fun z28 hz28 => ?_)
              refine ra_load rfl rfl rfl rfl ?_
              refine ra_iadd rfl ?_
              refine ra_gen (fun z29 hz29 => ?_)
              refine ra_store (L' := [_, _, _, _, _, _, _, _, _, _]) rfl rfl rfl (Nat.le_of_ble_eq_true rfl) rfl ?_
              refine ra_load rfl rfl rfl rfl ?_
              refine ra_store (L' := [_, _, _, _, _, _, _, _, _, _]) rfl rfl rfl (Nat.le_of_ble_eq_true rfl) rfl ?_
              refine ra_iinc (L' := [_, _, _, _, _, _, _, _, _, _]) rfl rfl (Nat.le_of_ble_eq_true rfl) rfl ?_
              refine ra_goto rfl rfl ?_
              exact ra_weak (by repeat' constructor) (ih z29 z25 v6 q7 (v8 + 1) s hz29 hz25 (by first | omega | (unfold ra_in at *; omega)) (by first | omega | (unfold ra_in at *; omega)) hq7 (by first | omega | (unfold ra_in at *; omega)) hF hcs (by omega) (by first | omega | (unfold ra_in at *; omega)))
            · refine ra_load rfl rfl rfl rfl ?_
              refine ra_load rfl rfl rfl rfl ?_
              refine ra_icge rfl rfl hz25 hv3 (fun h30 => ?_) (fun h30 => ?_)
              · refine ra_iinc (L' := [_, _, _, _, _, _, _, _, _, _]) rfl rfl (Nat.le_of_ble_eq_true rfl) rfl ?_
                refine ra_goto rfl rfl ?_
                exact ra_weak (by repeat' constructor) (ih v2 v3 v6 q7 (v8 + 1) s hv2 hv3 (by first | omega | (unfold ra_in at *; omega)) (by first | omega | (unfold ra_in at *; omega)) hq7 (by first | omega | (unfold ra_in at *; omega)) hF hcs (by omega) (by first | omega | (unfold ra_in at *; omega)))
              · refine ra_sipush rfl (by decide) ?_
                refine ra_load rfl rfl rfl rfl ?_
                refine ra_getK rfl lk_7_190 (Nat.zero_le _) (sh_P isD_1 hq7) rfl ?_
                refine ra_imul rfl ?_
                refine ra_gen (fun z31 hz31 => ?_)
                refine ra_load rfl rfl rfl rfl ?_
                refine ra_iadd rfl ?_
                refine ra_gen (fun z32 hz32 => ?_)
                refine ra_store (L' := [_, _, _, _, _, _, _, _, _, _]) rfl rfl rfl (Nat.le_of_ble_eq_true rfl) rfl ?_
                refine ra_load rfl rfl rfl rfl ?_
                refine ra_store (L' := [_, _, _, _, _, _, _, _, _, _]) rfl rfl rfl (Nat.le_of_ble_eq_true rfl) rfl ?_
                refine ra_iinc (L' := [_, _, _, _, _, _, _, _, _, _]) rfl rfl (Nat.le_of_ble_eq_true rfl) rfl ?_
                refine ra_goto rfl rfl ?_
                exact ra_weak (by repeat' constructor) (ih z32 z25 v6 q7 (v8 + 1) s hz32 hz25 (by first | omega | (unfold ra_in at *; omega)) (by first | omega | (unfold ra_in at *; omega)) hq7 (by first | omega | (unfold ra_in at *; omega)) hF hcs (by omega) (by first | omega | (unfold ra_in at *; omega)))
theorem lp_169_62 {n : Nat} {f : Nat → Int32} {d : Nat} {x0 : Int} {σ : ra_V} (hx0 : ra_in x0) (hci : CI σ) : ∀ (nn : Nat) (v2 : Int) (v3 : Int) (v6 : Int) (s : ra_V) (hv2 : ra_in v2) (hv3 : ra_in v3) (hv6_0 : 0 ≤ v6) (hv6_1 : v6 ≤ 8) (hF : Fr (0) (175) σ s) (hcs : CI s) (hm : ((8 - v6 : Int)).toNat < nn), ra_P (g_Gs n f) g_sh 0 (d + 6) g_m_X7_cheapestMove 62 [some (.index (0)), some (ra_I x0), some (ra_I v2), some (ra_I v3), some (.index (1 + 2)), some (ra_I ((8 : Nat) : Int)), some (ra_I v6), none, none, none] [] s (fun r s => rX ["java/lang/IllegalArgumentException", "java/lang/IllegalStateException"] rI r ∧ Fr (0) (175) σ s ∧ CI s) := by
  intro nn
  induction nn with
  | zero => intro v2 v3 v6 s hv2 hv3 hv6_0 hv6_1 hF hcs hm; exact absurd hm (Nat.not_lt_zero _)
  | succ nn ih =>
    intro v2 v3 v6 s hv2 hv3 hv6_0 hv6_1 hF hcs hm
    refine ra_load rfl rfl rfl rfl ?_
    refine ra_load rfl rfl rfl rfl ?_
    refine ra_icge rfl rfl (by first | omega | (unfold ra_in at *; omega)) (by first | omega | (unfold ra_in at *; omega)) (fun h10 => ?_) (fun h10 => ?_)
    · refine ra_load rfl rfl rfl rfl ?_
      exact ra_ireturn rfl rfl ⟨Or.inl (⟨_, hv2, rfl⟩), ⟨hF, hcs⟩⟩
    · refine ra_load rfl rfl rfl rfl ?_
      refine ra_load rfl rfl rfl rfl ?_
      refine ra_aaload rfl (sh_D2 isD_1) rfl (by decide) (by first | omega | (unfold ra_in at *; omega)) (by first | omega | (unfold ra_in at *; omega)) (sh_pt (by first | omega | (unfold ra_in at *; omega)) (by first | omega | (unfold ra_in at *; omega))) rfl ?_
      have hi11 : v6.toNat < 8 := (by first | omega | (unfold ra_in at *; omega))
      refine ra_store (L' := [_, _, _, _, _, _, _, _, _, _]) rfl rfl rfl (Nat.le_of_ble_eq_true rfl) rfl ?_
      refine ra_load rfl rfl rfl rfl ?_
      refine ra_getR rfl lk_7_10 (Nat.zero_le _) sh_0 rfl ?_
      refine ra_getI rfl lk_7_94 (Nat.zero_le _) (sh_D isD_1) rfl ?_
      refine ra_gen (fun z12 hz12 => ?_)
      refine ra_store (L' := [_, _, _, _, _, _, _, _, _, _]) rfl rfl rfl (Nat.le_of_ble_eq_true rfl) rfl ?_
      exact ra_weak (by repeat' constructor) (lp_169_85 hx0 hci ih _ v2 v3 v6 v6.toNat z12 s hv2 hv3 (by first | omega | (unfold ra_in at *; omega)) (by first | omega | (unfold ra_in at *; omega)) hi11 hz12 hF hcs (by omega) (Nat.lt_succ_self _))
theorem sp_169 {n : Nat} {f : Nat → Int32} {d : Nat} {x0 : Int} {σ : ra_V} (hx0 : ra_in x0) (hci : CI σ) : ra_C (g_Gs n f) g_sh 0 (d + 7) 169 [.index (0), ra_I x0] σ (fun r s => rX ["java/lang/IllegalArgumentException", "java/lang/IllegalStateException"] rI r ∧ Fr (0) (175) σ s ∧ CI s) := by
  refine ra_enter (nn := 8) mt_169 rfl (Nat.le_of_ble_eq_true rfl) rfl (fun _ => by omega) ?_
  refine ra_load rfl rfl rfl rfl ?_
  refine ra_iconst rfl ?_
  refine ra_iclt rfl rfl hx0 (by first | omega | (unfold ra_in at *; omega)) (fun h1 => ?_) (fun h1 => ?_)
  · exact ra_throw (E := "java/lang/IllegalArgumentException") rfl lk_7_128 (by decide +kernel) (fun _ => rfl) ⟨Or.inr ⟨_, by simp, rfl⟩, ⟨Fr_rf, hci⟩⟩
  · refine ra_load rfl rfl rfl rfl ?_
    refine ra_sipush rfl (by decide) ?_
    refine ra_icle rfl rfl hx0 (by first | omega | (unfold ra_in at *; omega)) (fun h2 => ?_) (fun h2 => ?_)
    · refine ra_load rfl rfl rfl rfl ?_
      refine ra_cXVp (sp_184 ) rfl (ct_184 rfl lk_7_405 (Or.inl rfl) sh_0 (Nat.le_of_ble_eq_true rfl)) rfl ?_ (fun E hE => ⟨Or.inr ⟨E, (show ∀ E ∈ (["java/lang/IllegalStateException"] : List String), E ∈ (["java/lang/IllegalArgumentException", "java/lang/IllegalStateException"] : List String) by decide) E hE, rfl⟩, ⟨Fr_rf, hci⟩⟩)
      refine ra_load rfl rfl rfl rfl ?_
      refine ra_cR (sp_175 ) rfl (ct_175 rfl lk_7_106 (Or.inl rfl) sh_0 (Nat.le_of_ble_eq_true rfl)) (fun s4 hs4 => ?_)
      have hF5 := Fr_tr (lo := 0) (hi := 175) Fr_rf hs4 (by omega)
      have hci6 : CI s4 := CI_fr hci hs4 (by omega)
      refine ra_cIp (sp_57 ) rfl (ct_57 rfl lk_7_411 (Or.inl rfl) sh_172 (Nat.le_of_ble_eq_true rfl)) (fun z8 hz8 => ?_)
      refine ra_load rfl rfl rfl rfl ?_
      refine ra_iclt rfl rfl hz8 hx0 (fun h9 => ?_) (fun h9 => ?_)
      · refine ra_iconst rfl ?_
        refine ra_store (L' := [_, _, _, _, _, _, _, _, _, _]) rfl rfl rfl (Nat.le_of_ble_eq_true rfl) rfl ?_
        refine ra_iconst rfl ?_
        refine ra_store (L' := [_, _, _, _, _, _, _, _, _, _]) rfl rfl rfl (Nat.le_of_ble_eq_true rfl) rfl ?_
        refine ra_load rfl rfl rfl rfl ?_
        refine ra_getR rfl lk_7_10 (Nat.zero_le _) sh_0 rfl ?_
        refine ra_getR rfl lk_7_203 (Nat.zero_le _) (sh_D isD_1) rfl ?_
        refine ra_store (L' := [_, _, _, _, _, _, _, _, _, _]) rfl rfl rfl (Nat.le_of_ble_eq_true rfl) rfl ?_
        refine ra_load rfl rfl rfl rfl ?_
        refine ra_alen rfl (sh_D2 isD_1) rfl ?_
        refine ra_store (L' := [_, _, _, _, _, _, _, _, _, _]) rfl rfl rfl (Nat.le_of_ble_eq_true rfl) rfl ?_
        refine ra_iconst rfl ?_
        refine ra_store (L' := [_, _, _, _, _, _, _, _, _, _]) rfl rfl rfl (Nat.le_of_ble_eq_true rfl) rfl ?_
        exact ra_weak (by repeat' constructor) (lp_169_62 hx0 hci _ (-1) (0) (0) s4 (by first | omega | (unfold ra_in at *; omega)) (by first | omega | (unfold ra_in at *; omega)) (by first | omega | (unfold ra_in at *; omega)) (by first | omega | (unfold ra_in at *; omega)) hF5 hci6 (Nat.lt_succ_self _))
      · refine ra_bipush rfl (by decide) ?_
        exact ra_ireturn rfl rfl ⟨Or.inl (⟨_, (by first | omega | (unfold ra_in at *; omega)), rfl⟩), ⟨hF5, hci6⟩⟩
    · exact ra_throw (E := "java/lang/IllegalArgumentException") rfl lk_7_128 (by decide +kernel) (fun _ => rfl) ⟨Or.inr ⟨_, by simp, rfl⟩, ⟨Fr_rf, hci⟩⟩
end CW
end
section
/-! the class: what its methods do, told weakly (printed by wip/gen/cls.py) -/
section CW
theorem sp_116 {n : Nat} {f : Nat → Int32} {d : Nat}  {σ : ra_V} (hci : CI σ) : ra_C (g_Gs n f) g_sh 0 (d + 10) 116 [.index (0)] σ (fun r s => rI r ∧ Fr (0) (179) σ s ∧ CI s ∧ ra_g s (175) 1 = 0) := by
  refine ra_enter (nn := 1) mt_116 rfl (Nat.le_of_ble_eq_true rfl) rfl (fun h => absurd h (by decide +kernel)) ?_
  refine ra_load rfl rfl rfl rfl ?_
  refine ra_getR rfl lk_7_39 (Nat.zero_le _) sh_0 rfl ?_
  refine ra_load rfl rfl rfl rfl ?_
  refine ra_getR rfl lk_7_16 (Nat.zero_le _) sh_0 rfl ?_
  refine ra_cB (sp_99 isD_14 (by first | assumption | rfl | omega)) rfl (ct_99 rfl lk_7_65 (Or.inl rfl) sh_175 (Nat.le_of_ble_eq_true rfl)) (fun z2 s1  hz2 hs1 => ?_)
  obtain ⟨hf3, hc4⟩ := hs1
  have hF5 := Fr_tr (lo := 0) (hi := 179) Fr_rf hf3 (by omega)
  have hci6 : CI s1 := (by have hz := hci; unfold CI at hz ⊢; rw [ra_gk hc4]; exact hz)
  refine ra_store (L' := [_, _]) rfl rfl rfl (Nat.le_of_ble_eq_true rfl) rfl ?_
  refine ra_load rfl rfl rfl rfl ?_
  refine ra_getR rfl lk_7_39 (Nat.zero_le _) sh_0 rfl ?_
  refine ra_iconst rfl ?_
  refine ra_putI rfl lk_7_61 (Nat.zero_le _) sh_175 rfl rfl ?_
  refine ra_newU (by first | omega | (unfold ra_in at *; omega)) (fun s7 hs7 hp8 hp8o => ?_)
  have hp8_4 := hp8o 4 (by decide)
  have hF9 := Fr_tr (lo := 0) (hi := 179) hF5 hs7 (by omega)
  have hci10 : CI s7 := CI_fr hci6 hs7 (by omega)
  refine ra_load rfl rfl rfl rfl ?_
  refine ra_ifne rfl rfl (ra_in01 hz2) (fun h11 => ?_) (fun h11 => ?_)
  · refine ra_load rfl rfl rfl rfl ?_
    refine ra_getR rfl lk_7_10 (Nat.zero_le _) sh_0 rfl ?_
    refine ra_load rfl rfl rfl rfl ?_
    refine ra_getR rfl lk_7_16 (Nat.zero_le _) sh_0 rfl ?_
    refine ra_cV (sp_2 isD_1 isD_14) rfl (ct_2 rfl lk_7_69 (Or.inl rfl) (sh_D isD_1) (Nat.le_of_ble_eq_true rfl)) (fun s12 hs12 => ?_)
    have hF13 := Fr_tr (lo := 0) (hi := 179) hF9 hs12 (by omega)
    have hci14 : CI s12 := CI_fr hci10 hs12 (by omega)
    have hk15 : s12 (175) = s7 (175) := (hs12 (175) (by omega))
    refine ra_load rfl rfl rfl rfl ?_
    refine ra_getR rfl lk_7_25 (Nat.zero_le _) sh_0 rfl ?_
    refine ra_cV (sp_64 hci14) rfl (ct_64 rfl lk_7_73 (Or.inl rfl) sh_40 (Nat.le_of_ble_eq_true rfl)) (fun s16 hs16 => ?_)
    obtain ⟨hf17, he18⟩ := hs16
    have hF19 := Fr_tr (lo := 0) (hi := 179) hF13 hf17 (by omega)
    have hci20 : CI s16 := he18
    have hk21 : s16 (175) = s7 (175) := (hf17 (175) (by omega)).trans hk15
    refine ra_load rfl rfl rfl rfl ?_
    refine ra_iconst rfl ?_
    refine ra_putB rfl lk_7_76 (Nat.zero_le _) sh_0 rfl rfl (Or.inl rfl) ?_
    refine ra_new Fr_up (fun s22 hs22 => ?_)
    have hF23 := Fr_tr (lo := 0) (hi := 179) hF19 hs22 (by omega)
    have hci24 : CI s22 := CI_fr hci20 hs22 (by omega)
    have hk25 : s22 (175) = s7 (175) := (hs22 (175) (by omega)).trans hk21
    refine ra_load rfl rfl rfl rfl ?_
    refine ra_getR rfl lk_7_46 (Nat.zero_le _) sh_0 rfl ?_
    refine ra_cV (sp_85 ) rfl (ct_85 rfl lk_7_80 (Or.inl rfl) sh_177 (Nat.le_of_ble_eq_true rfl)) (fun s26 hs26 => ?_)
    have hF27 := Fr_tr (lo := 0) (hi := 179) hF23 hs26 (by omega)
    have hci28 : CI s26 := CI_fr hci24 hs26 (by omega)
    have hk29 : s26 (175) = s7 (175) := (hs26 (175) (by omega)).trans hk25
    refine ra_load rfl rfl rfl rfl ?_
    refine ra_getR rfl lk_7_10 (Nat.zero_le _) sh_0 rfl ?_
    refine ra_cIp (sp_4 isD_1) rfl (ct_4 rfl lk_7_83 (Or.inl rfl) (sh_D isD_1) (Nat.le_of_ble_eq_true rfl)) (fun z31 hz31 => ?_)
    exact ra_ireturn rfl rfl ⟨⟨_, hz31, rfl⟩, ⟨hF27, hci28, by rw [ra_gk hk29]; assumption⟩⟩
  · refine ra_iconst rfl ?_
    exact ra_ireturn rfl rfl ⟨⟨_, (by first | omega | (unfold ra_in at *; omega)), rfl⟩, ⟨hF9, hci10, by assumption⟩⟩
theorem sp_115 {n : Nat} {f : Nat → Int32} {d : Nat} {x0 : Int} {σ : ra_V} (hx0 : ra_in x0) (hl : 0 ≤ ra_g σ (175) 1 ∧ ra_g σ (175) 1 ≤ 500) : ra_C (g_Gs n f) g_sh 0 (d + 1) 115 [.index (0), ra_I x0] σ (fun r s => r = .inl (some (ra_B (0 ≤ x0 ∧ x0 ≤ ra_g σ (175) 1))) ∧ Fr (175) (177) σ s ∧ ra_g s (175) 1 = (if 0 ≤ x0 ∧ x0 ≤ ra_g σ (175) 1 then x0 else ra_g σ (175) 1)) := by
  refine ra_enter (nn := 0) mt_115 rfl (Nat.le_of_ble_eq_true rfl) rfl (fun h => absurd h (by decide +kernel)) ?_
  refine ra_load rfl rfl rfl rfl ?_
  refine ra_iflt rfl rfl hx0 (fun h1 => ?_) (fun h1 => ?_)
  · refine ra_iconst rfl ?_
    exact ra_ireturn rfl (ra_okB (Or.inl rfl)) ⟨by unfold ra_B; rw [if_neg (by omega)], Fr_rf, by rw [if_neg (by omega)]⟩
  · refine ra_load rfl rfl rfl rfl ?_
    refine ra_load rfl rfl rfl rfl ?_
    refine ra_getR rfl lk_7_39 (Nat.zero_le _) sh_0 rfl ?_
    refine ra_getI rfl lk_7_61 (Nat.zero_le _) sh_175 rfl ?_
    refine ra_icle rfl rfl hx0 (ra_in_g _ _ _) (fun h2 => ?_) (fun h2 => ?_)
    · refine ra_load rfl rfl rfl rfl ?_
      refine ra_getR rfl lk_7_39 (Nat.zero_le _) sh_0 rfl ?_
      refine ra_load rfl rfl rfl rfl ?_
      refine ra_putI rfl lk_7_61 (Nat.zero_le _) sh_175 rfl rfl ?_
      refine ra_newU hx0 (fun s3 hs3 hp4 hp4o => ?_)
      have hp4_4 := hp4o 4 (by decide)
      have hF5 := Fr_tr (lo := 175) (hi := 177) Fr_rf hs3 (by omega)
      refine ra_iconst rfl ?_
      exact ra_ireturn rfl (ra_okB (Or.inr rfl)) ⟨by unfold ra_B; rw [if_pos (by omega)], hF5, by rw [if_pos (by omega)]; assumption⟩
    · refine ra_iconst rfl ?_
      exact ra_ireturn rfl (ra_okB (Or.inl rfl)) ⟨by unfold ra_B; rw [if_neg (by omega)], Fr_rf, by rw [if_neg (by omega)]⟩
theorem sp_114 {n : Nat} {f : Nat → Int32} {d : Nat} {x0 : Int} {x1 : Int} {x2 : Int} {x3 : Int} {x4 : Int} {σ : ra_V} (hx0 : ra_in x0) (hx1 : ra_in x1) (hx2 : ra_in x2) (hx3 : ra_in x3) (hx4 : ra_in x4) (hl : 0 ≤ ra_g σ (175) 1 ∧ ra_g σ (175) 1 ≤ 500) : ra_C (g_Gs n f) g_sh 0 (d + 2) 114 [.index (0), ra_I x0, ra_I x1, ra_I x2, ra_I x3, ra_I x4] σ (fun r s => r = .inl (some (ra_I (if ra_g σ (175) 1 + 20 ≤ 500 then ra_g σ (175) 1 + 20 else -1))) ∧ Fr (175) (177) σ s ∧ ra_g s (175) 1 = (if ra_g σ (175) 1 + 20 ≤ 500 then ra_g σ (175) 1 + 20 else ra_g σ (175) 1)) := by
  refine ra_enter (nn := 0) mt_114 rfl (Nat.le_of_ble_eq_true rfl) rfl (fun h => absurd h (by decide +kernel)) ?_
  refine ra_load rfl rfl rfl rfl ?_
  refine ra_getR rfl lk_7_39 (Nat.zero_le _) sh_0 rfl ?_
  refine ra_bipush rfl (by decide) ?_
  refine ra_cTp (sp_97 (by first | omega | (unfold ra_in at *; omega)) (by first | assumption | rfl | omega)) rfl (ct_97 rfl lk_7_54 (Or.inl rfl) sh_175 (Nat.le_of_ble_eq_true rfl)) ?_
  refine ra_ifneB rfl rfl (fun h2 => ?_) (fun h2 => ?_)
  · refine ra_load rfl rfl rfl rfl ?_
    refine ra_getR rfl lk_7_39 (Nat.zero_le _) sh_0 rfl ?_
    refine ra_load rfl rfl rfl rfl ?_
    refine ra_cV (sp_98 hx0 (by first | assumption | rfl | omega)) rfl (ct_98 rfl lk_7_58 (Or.inl rfl) sh_175 (Nat.le_of_ble_eq_true rfl)) (fun s3 hs3 => ?_)
    obtain ⟨hf4, he5⟩ := hs3
    have hF6 := Fr_tr (lo := 175) (hi := 177) Fr_rf hf4 (by omega)
    refine ra_load rfl rfl rfl rfl ?_
    refine ra_getR rfl lk_7_39 (Nat.zero_le _) sh_0 rfl ?_
    refine ra_load rfl rfl rfl rfl ?_
    refine ra_cV (sp_98 hx1 (by first | assumption | rfl | omega)) rfl (ct_98 rfl lk_7_58 (Or.inl rfl) sh_175 (Nat.le_of_ble_eq_true rfl)) (fun s7 hs7 => ?_)
    obtain ⟨hf8, he9⟩ := hs7
    have hF10 := Fr_tr (lo := 175) (hi := 177) hF6 hf8 (by omega)
    refine ra_load rfl rfl rfl rfl ?_
    refine ra_getR rfl lk_7_39 (Nat.zero_le _) sh_0 rfl ?_
    refine ra_load rfl rfl rfl rfl ?_
    refine ra_cV (sp_98 hx2 (by first | assumption | rfl | omega)) rfl (ct_98 rfl lk_7_58 (Or.inl rfl) sh_175 (Nat.le_of_ble_eq_true rfl)) (fun s11 hs11 => ?_)
    obtain ⟨hf12, he13⟩ := hs11
    have hF14 := Fr_tr (lo := 175) (hi := 177) hF10 hf12 (by omega)
    refine ra_load rfl rfl rfl rfl ?_
    refine ra_getR rfl lk_7_39 (Nat.zero_le _) sh_0 rfl ?_
    refine ra_load rfl rfl rfl rfl ?_
    refine ra_cV (sp_98 hx3 (by first | assumption | rfl | omega)) rfl (ct_98 rfl lk_7_58 (Or.inl rfl) sh_175 (Nat.le_of_ble_eq_true rfl)) (fun s15 hs15 => ?_)
    obtain ⟨hf16, he17⟩ := hs15
    have hF18 := Fr_tr (lo := 175) (hi := 177) hF14 hf16 (by omega)
    refine ra_load rfl rfl rfl rfl ?_
    refine ra_getR rfl lk_7_39 (Nat.zero_le _) sh_0 rfl ?_
    refine ra_load rfl rfl rfl rfl ?_
    refine ra_cV (sp_98 hx4 (by first | assumption | rfl | omega)) rfl (ct_98 rfl lk_7_58 (Or.inl rfl) sh_175 (Nat.le_of_ble_eq_true rfl)) (fun s19 hs19 => ?_)
    obtain ⟨hf20, he21⟩ := hs19
    have hF22 := Fr_tr (lo := 175) (hi := 177) hF18 hf20 (by omega)
    refine ra_load rfl rfl rfl rfl ?_
    refine ra_getR rfl lk_7_39 (Nat.zero_le _) sh_0 rfl ?_
    refine ra_getI rfl lk_7_61 (Nat.zero_le _) sh_175 rfl ?_
    exact ra_ireturn rfl rfl ⟨by rw [if_pos (by omega)]; exact congrArg (fun z => Sum.inl (some (ra_I z))) (by omega), hF22, by rw [if_pos (by omega)]; omega⟩
  · refine ra_iconst rfl ?_
    exact ra_ireturn rfl rfl ⟨by rw [if_neg (by omega)], Fr_rf, by rw [if_neg (by omega)]⟩
theorem sp_128 {n : Nat} {f : Nat → Int32} {d : Nat}  {σ : ra_V}  : ra_C (g_Gs n f) g_sh 0 (d + 2) 128 [.index (0)] σ (fun r s => (rF 4) r ∧ s = σ) := by
  refine ra_enter (nn := 1) mt_128 rfl (Nat.le_of_ble_eq_true rfl) rfl (fun h => absurd h (by decide +kernel)) ?_
  refine ra_load rfl rfl rfl rfl ?_
  refine ra_getR rfl lk_7_10 (Nat.zero_le _) sh_0 rfl ?_
  refine ra_cIp (sp_9 isD_1) rfl (ct_9 rfl lk_7_197 (Or.inl rfl) (sh_D isD_1) (Nat.le_of_ble_eq_true rfl)) (fun z2 hz2 => ?_)
  refine ra_load rfl rfl rfl rfl ?_
  refine ra_getR rfl lk_7_10 (Nat.zero_le _) sh_0 rfl ?_
  refine ra_getI rfl lk_7_94 (Nat.zero_le _) (sh_D isD_1) rfl ?_
  refine ra_gen (fun z3 hz3 => ?_)
  refine ra_isub rfl ?_
  refine ra_gen (fun z4 hz4 => ?_)
  refine ra_store (L' := [_, _]) rfl rfl rfl (Nat.le_of_ble_eq_true rfl) rfl ?_
  refine ra_load rfl rfl rfl rfl ?_
  refine ra_iconst rfl ?_
  refine ra_icge rfl rfl hz4 (by first | omega | (unfold ra_in at *; omega)) (fun h5 => ?_) (fun h5 => ?_)
  · refine ra_load rfl rfl rfl rfl ?_
    refine ra_getR rfl lk_7_10 (Nat.zero_le _) sh_0 rfl ?_
    refine ra_cIp (sp_5 isD_1) rfl (ct_5 rfl lk_7_200 (Or.inl rfl) (sh_D isD_1) (Nat.le_of_ble_eq_true rfl)) (fun z7 hz7 => ?_)
    refine ra_i2d rfl ?_
    refine ra_load rfl rfl rfl rfl ?_
    refine ra_i2d rfl ?_
    refine ra_ddiv rfl (ra_dn hz4 (by first | omega | (unfold ra_in at *; omega))) ?_
    exact ra_dreturn rfl rfl ⟨⟨_, rfl, rfl⟩, rfl⟩
  · refine ra_dconst0 rfl ?_
    refine ra_goto rfl rfl ?_
    exact ra_dreturn rfl rfl ⟨⟨_, rfl, rfl⟩, rfl⟩
theorem sp_137 {n : Nat} {f : Nat → Int32} {d : Nat}  {σ : ra_V}  : ra_C (g_Gs n f) g_sh 0 (d + 7) 137 [.index (0)] σ (fun r s => (rF 5) r ∧ Fr (172) (175) σ s) := by
  refine ra_enter (nn := 2) mt_137 rfl (Nat.le_of_ble_eq_true rfl) rfl (fun h => absurd h (by decide +kernel)) ?_
  refine ra_load rfl rfl rfl rfl ?_
  refine ra_cR (sp_175 ) rfl (ct_175 rfl lk_7_106 (Or.inl rfl) sh_0 (Nat.le_of_ble_eq_true rfl)) (fun s1 hs1 => ?_)
  have hF2 := Fr_tr (lo := 172) (hi := 175) Fr_rf hs1 (by omega)
  refine ra_store (L' := [_, _, _]) rfl rfl rfl (Nat.le_of_ble_eq_true rfl) rfl ?_
  refine ra_load rfl rfl rfl rfl ?_
  refine ra_cIp (sp_54 ) rfl (ct_54 rfl lk_7_110 (Or.inl rfl) sh_172 (Nat.le_of_ble_eq_true rfl)) (fun z4 hz4 => ?_)
  refine ra_store (L' := [_, _, _]) rfl rfl rfl (Nat.le_of_ble_eq_true rfl) rfl ?_
  refine ra_load rfl rfl rfl rfl ?_
  refine ra_iconst rfl ?_
  refine ra_icge rfl rfl hz4 (by first | omega | (unfold ra_in at *; omega)) (fun h5 => ?_) (fun h5 => ?_)
  · refine ra_fconst1 rfl ?_
    refine ra_load rfl rfl rfl rfl ?_
    refine ra_cIp (sp_56 ) rfl (ct_56 rfl lk_7_232 (Or.inl rfl) sh_172 (Nat.le_of_ble_eq_true rfl)) (fun z7 hz7 => ?_)
    refine ra_i2f rfl ?_
    refine ra_load rfl rfl rfl rfl ?_
    refine ra_i2f rfl ?_
    refine ra_fdiv rfl (ra_fn hz4 (by first | omega | (unfold ra_in at *; omega))) ?_
    refine ra_fsub rfl (ra_sn hz4 (by first | omega | (unfold ra_in at *; omega))) ?_
    exact ra_freturn rfl rfl ⟨⟨_, rfl, rfl⟩, hF2⟩
  · refine ra_fconst0 rfl ?_
    refine ra_goto rfl rfl ?_
    exact ra_freturn rfl rfl ⟨⟨_, rfl, rfl⟩, hF2⟩
end CW
end
section
/-! the reference's row: what holds of it -/
section RB
def wf (f : Nat → Int) (p w : Int) : Int := f (24 + 8 * p + w).toNat
def ref_apart (a m b n : Int) : Prop := a + m ≤ b ∨ b + n ≤ a
def ref_chunks (size chunk : Int) : Int := (size + chunk - 1).tdiv chunk
/-- a move that is on -/
def WFm (f : Nat → Int) : Prop :=
  (0 ≤ f 16 ∧ f 16 < 8) ∧ wf f (f 16) 0 = 1 ∧ wf f (f 16) 1 = f 17 ∧ (f 1 ≤ f 18 ∧ f 18 + wf f (f 16) 2 ≤ f 0 - f 2) ∧ f 17 ≠ f 18 ∧ (1 ≤ f 19 ∧ f 19 ≤ 16) ∧ (0 ≤ f 21 ∧ f 21 < ref_chunks (wf f (f 16) 2) (f 19)) ∧ (f 22 = 0 ∨ f 22 = 1) ∧
  (-1 ≤ f 20 ∧ f 20 + min (f 19) (wf f (f 16) 2) ≤ 600) ∧ (f 20 = -1 → min (f 19) (wf f (f 16) 2) ≤ f 17 - f 18 ∨ min (f 19) (wf f (f 16) 2) ≤ f 18 - f 17) ∧
  (∀ q, 0 ≤ q → q < 8 → q ≠ f 16 → wf f q 0 = 1 → ref_apart (f 18) (wf f (f 16) 2) (wf f q 1) (wf f q 2))
def WFp (f : Nat → Int) (p : Int) : Prop := 1 ≤ wf f p 3 ∧ wf f p 3 ≤ wf f p 2 ∧ f 1 ≤ wf f p 1 ∧ wf f p 1 + wf f p 2 ≤ f 0 - f 2
def WFs (f : Nat → Int) : Prop := (64 ≤ f 0 ∧ f 0 ≤ 600) ∧ (0 ≤ f 1 ∧ f 1 ≤ 31) ∧ (0 ≤ f 2 ∧ f 2 ≤ 31) ∧ (1 ≤ f 3 ∧ f 3 ≤ 32) ∧ (1 ≤ f 4 ∧ f 4 ≤ 16)
def WFf (f : Nat → Int) : Prop :=
  WFs f ∧ (∀ p, 0 ≤ p → p < 8 → wf f p 0 = 0 ∨ wf f p 0 = 1) ∧ (∀ p, 0 ≤ p → p < 8 → wf f p 0 = 1 → WFp f p) ∧
  (∀ p q, 0 ≤ p → p < 8 → 0 ≤ q → q < 8 → p ≠ q → wf f p 0 = 1 → wf f q 0 = 1 → ref_apart (wf f p 1) (wf f p 2) (wf f q 1) (wf f q 2)) ∧ (f 16 = -1 ∨ WFm f)
/-- the row w -/
def rw_ (σ : ra_V) (j : Nat) : Int := ra_g σ 180 j
def wq (σ : ra_V) (p w : Int) : Int := ra_g σ 180 (24 + 8 * p + w).toNat
theorem wq_eq {σ : ra_V} {p w : Int} : wf (rw_ σ) p w = wq σ p w := rfl
theorem ra_in_wq (σ : ra_V) (p w : Int) : ra_in (wq σ p w) := ra_in_g _ _ _
def WF (σ : ra_V) : Prop := WFf (rw_ σ)
theorem wq_k {s t : ra_V} {p w : Int} (h : s 180 = t 180) : wq s p w = wq t p w := ra_gk h
theorem rw_k {s t : ra_V} (h : s 180 = t 180) : rw_ s = rw_ t := by funext j; exact ra_gk h
theorem WF_k {s t : ra_V} (h : s 180 = t 180) (hw : WF t) : WF s := by unfold WF; rw [rw_k h]; exact hw
/-- what is easy to see of it -/
def WFa (σ : ra_V) : Prop := (64 ≤ ra_g σ 180 0 ∧ ra_g σ 180 0 ≤ 600) ∧ (0 ≤ ra_g σ 180 1 ∧ ra_g σ 180 1 ≤ 31) ∧ (0 ≤ ra_g σ 180 2 ∧ ra_g σ 180 2 ≤ 31) ∧ (1 ≤ ra_g σ 180 3 ∧ ra_g σ 180 3 ≤ 32) ∧ (1 ≤ ra_g σ 180 4 ∧ ra_g σ 180 4 ≤ 16) ∧ (-1 ≤ ra_g σ 180 16 ∧ ra_g σ 180 16 < 8)
theorem WF_a {σ : ra_V} (h : WF σ) : WFa σ := by
  obtain ⟨⟨h1, h2, h3, h4, h5⟩, -, -, -, h6⟩ := h
  refine ⟨h1, h2, h3, h4, h5, ?_⟩
  rcases h6 with h6 | ⟨h6, -⟩
  · have h6 : ra_g σ 180 16 = -1 := h6
    omega
  · have h6 : 0 ≤ ra_g σ 180 16 ∧ ra_g σ 180 16 < 8 := h6
    omega
theorem WF_ex {σ : ra_V} (h : WF σ) {p : Int} (h0 : 0 ≤ p) (h1 : p < 8) : wq σ p 0 = 0 ∨ wq σ p 0 = 1 := h.2.1 p h0 h1
theorem WF_p {σ : ra_V} (h : WF σ) {p : Int} (h0 : 0 ≤ p) (h1 : p < 8) (he : wq σ p 0 = 1) : 1 ≤ wq σ p 3 ∧ wq σ p 3 ≤ wq σ p 2 ∧ ra_g σ 180 1 ≤ wq σ p 1 ∧ wq σ p 1 + wq σ p 2 ≤ ra_g σ 180 0 - ra_g σ 180 2 := h.2.2.1 p h0 h1 he
theorem WF_ap {σ : ra_V} (h : WF σ) {p q : Int} (h0 : 0 ≤ p) (h1 : p < 8) (h2 : 0 ≤ q) (h3 : q < 8) (hn : p ≠ q) (he : wq σ p 0 = 1) (hf : wq σ q 0 = 1) : wq σ p 1 + wq σ p 2 ≤ wq σ q 1 ∨ wq σ q 1 + wq σ q 2 ≤ wq σ p 1 := h.2.2.2.1 p q h0 h1 h2 h3 hn he hf
/-- an area meets a partition, but one -/
def TK (σ : ra_V) (a m w : Int) : Prop := ∃ p, 0 ≤ p ∧ p < 8 ∧ p ≠ w ∧ wq σ p 0 = 1 ∧ a < wq σ p 1 + wq σ p 2 ∧ wq σ p 1 < a + m
def US (σ : ra_V) (a m : Int) : Prop := 1 ≤ m ∧ ra_g σ 180 1 ≤ a ∧ a + m ≤ ra_g σ 180 0 - ra_g σ 180 2
/-- the room that a move needs: where it goes to -/
def BT (σ : ra_V) (a m : Int) : Prop := ra_g σ 180 16 ≠ -1 ∧ 1 ≤ m ∧ a < ra_g σ 180 18 + wq σ (ra_g σ 180 16) 2 ∧ ra_g σ 180 18 < a + m
theorem ex_s1 {P : Int → Prop} {v : Int} (h : ∃ p, 0 ≤ p ∧ p < v ∧ P p) : ∃ p, 0 ≤ p ∧ p < v + 1 ∧ P p := by
  obtain ⟨p, h1, h2, h3⟩ := h
  exact ⟨p, h1, by omega, h3⟩
theorem ex_s2 {P : Int → Prop} {v : Int} (h : 0 ≤ v) (hp : P v) : ∃ p, 0 ≤ p ∧ p < v + 1 ∧ P p := ⟨v, h, by omega, hp⟩
theorem ex_s0 {P : Int → Prop} {v : Int} (h : ¬ ∃ p, 0 ≤ p ∧ p < v ∧ P p) (hp : ¬ P v) : ¬ ∃ p, 0 ≤ p ∧ p < v + 1 ∧ P p := by
  rintro ⟨p, h1, h2, h3⟩
  by_cases e : p = v
  · rw [e] at h3; exact hp h3
  · exact h ⟨p, h1, by omega, h3⟩
theorem ra_in_tmod {x y : Int} (hx : ra_in x) (hy : 1 ≤ y) : ra_in (x.tmod y) := by
  have h1 := Int.natAbs_tdiv_le_natAbs x y
  have h2 := Int.tmod_lt_of_pos x (by omega : 0 < y)
  have h3 := Int.lt_tmod_of_pos x (by omega : 0 < y)
  have h4 : 0 ≤ x → x.tmod y ≤ x := fun h => by
    have := Int.tmod_add_mul_tdiv x y
    have := Int.mul_nonneg (by omega : 0 ≤ y) (Int.tdiv_nonneg h (by omega : 0 ≤ y))
    omega
  have h5 : 0 ≤ x → 0 ≤ x.tmod y := fun h => Int.tmod_nonneg _ h
  have h6 : x ≤ 0 → x ≤ x.tmod y := fun h => by
    have := Int.tmod_add_mul_tdiv x y
    have := Int.mul_nonneg (by omega : 0 ≤ y) (Int.tdiv_nonneg (a := -x) (by omega) (by omega : 0 ≤ y))
    rw [Int.neg_tdiv, Int.mul_neg] at this
    omega
  have h7 : x ≤ 0 → x.tmod y ≤ 0 := fun h => by
    have := Int.tmod_nonneg (a := -x) y (by omega)
    rw [Int.neg_tmod] at this
    omega
  unfold ra_in at *
  rcases Int.le_total 0 x with h | h
  · have := h4 h; have := h5 h; omega
  · have := h6 h; have := h7 h; omega
theorem WFa_k {s t : ra_V} (h : s 180 = t 180) (hw : WFa t) : WFa s := by
  unfold WFa at *
  rw [ra_gk h, ra_gk h, ra_gk h, ra_gk h, ra_gk h, ra_gk h]
  exact hw
end RB
end
section
/-! the reference: what its methods do (printed by wip/gen/ref.py) -/
section RB
theorem sp_193 {n : Nat} {f : Nat → Int32} {d : Nat} {x0 : Int} {x1 : Int} {x2 : Int} {σ : ra_V} (hx0 : ra_in x0) (hx1 : ra_in x1) (hx2 : ra_in x2) : ra_C (g_Gs n f) g_sh 0 (d + 1) 193 [ra_J x0, ra_J x1, ra_J x2] σ (fun r s => r = .inl (some (ra_B (x1 ≤ x0 ∧ x0 ≤ x2))) ∧ s = σ) := by
  refine ra_enter (nn := 0) mt_193 rfl (Nat.le_of_ble_eq_true rfl) rfl (fun h => absurd h (by decide +kernel)) ?_
  refine ra_load rfl rfl rfl rfl ?_
  refine ra_load rfl rfl rfl rfl ?_
  refine ra_lcmp rfl (by unfold ra_in6; first | omega | (unfold ra_in at *; omega)) (by unfold ra_in6; first | omega | (unfold ra_in at *; omega)) ?_
  refine ra_iflt rfl rfl (ra_in_cmp _ _) (fun h1 => ?_) (fun h1 => ?_)
  · rw [ra_cmp_lt] at h1
    refine ra_iconst rfl ?_
    exact ra_ireturn rfl (ra_okB (Or.inl rfl)) ⟨(by unfold ra_B; rw [if_neg (by omega)]), rfl⟩
  · rw [ra_cmp_ge] at h1
    refine ra_load rfl rfl rfl rfl ?_
    refine ra_load rfl rfl rfl rfl ?_
    refine ra_lcmp rfl (by unfold ra_in6; first | omega | (unfold ra_in at *; omega)) (by unfold ra_in6; first | omega | (unfold ra_in at *; omega)) ?_
    refine ra_ifgt rfl rfl (ra_in_cmp _ _) (fun h2 => ?_) (fun h2 => ?_)
    · rw [ra_cmp_gt] at h2
      refine ra_iconst rfl ?_
      exact ra_ireturn rfl (ra_okB (Or.inl rfl)) ⟨(by unfold ra_B; rw [if_neg (by omega)]), rfl⟩
    · rw [ra_cmp_le] at h2
      refine ra_iconst rfl ?_
      refine ra_goto rfl rfl ?_
      exact ra_ireturn rfl (ra_okB (Or.inr rfl)) ⟨(by unfold ra_B; rw [if_pos (by omega)]), rfl⟩
theorem sp_212 {n : Nat} {f : Nat → Int32} {d : Nat} {x0 : Int} {x1 : Int} {x2 : Int} {x3 : Int} {σ : ra_V} (hx0 : ra_in x0) (hx1 : ra_in x1) (hx2 : ra_in x2) (hx3 : ra_in x3) : ra_C (g_Gs n f) g_sh 0 (d + 1) 212 [ra_J x0, ra_J x1, ra_J x2, ra_J x3] σ (fun r s => r = .inl (some (ra_B (x0 < x2 + x3 ∧ x2 < x0 + x1))) ∧ s = σ) := by
  refine ra_enter (nn := 0) mt_212 rfl (Nat.le_of_ble_eq_true rfl) rfl (fun h => absurd h (by decide +kernel)) ?_
  refine ra_load rfl rfl rfl rfl ?_
  refine ra_load rfl rfl rfl rfl ?_
  refine ra_load rfl rfl rfl rfl ?_
  refine ra_ladd rfl ?_
  refine ra_lcmp rfl (by unfold ra_in6; first | omega | (unfold ra_in at *; omega)) (by unfold ra_in6; first | omega | (unfold ra_in at *; omega)) ?_
  refine ra_ifge rfl rfl (ra_in_cmp _ _) (fun h1 => ?_) (fun h1 => ?_)
  · rw [ra_cmp_ge] at h1
    refine ra_iconst rfl ?_
    exact ra_ireturn rfl (ra_okB (Or.inl rfl)) ⟨(by unfold ra_B; rw [if_neg (by omega)]), rfl⟩
  · rw [ra_cmp_lt] at h1
    refine ra_load rfl rfl rfl rfl ?_
    refine ra_load rfl rfl rfl rfl ?_
    refine ra_load rfl rfl rfl rfl ?_
    refine ra_ladd rfl ?_
    refine ra_lcmp rfl (by unfold ra_in6; first | omega | (unfold ra_in at *; omega)) (by unfold ra_in6; first | omega | (unfold ra_in at *; omega)) ?_
    refine ra_ifge rfl rfl (ra_in_cmp _ _) (fun h2 => ?_) (fun h2 => ?_)
    · rw [ra_cmp_ge] at h2
      refine ra_iconst rfl ?_
      exact ra_ireturn rfl (ra_okB (Or.inl rfl)) ⟨(by unfold ra_B; rw [if_neg (by omega)]), rfl⟩
    · rw [ra_cmp_lt] at h2
      refine ra_iconst rfl ?_
      refine ra_goto rfl rfl ?_
      exact ra_ireturn rfl (ra_okB (Or.inr rfl)) ⟨(by unfold ra_B; rw [if_pos (by omega)]), rfl⟩
theorem sp_207 {n : Nat} {f : Nat → Int32} {d : Nat} {x0 : Int} {x1 : Int} {σ : ra_V} (hx0 : ra_in x0) (hx1 : ra_in x1) (hp : 1 ≤ x1 ∧ x1 ≤ 1000 ∧ -2147480000 ≤ x0 ∧ x0 ≤ 2147480000) : ra_C (g_Gs n f) g_sh 0 (d + 1) 207 [ra_I x0, ra_I x1] σ (fun r s => r = .inl (some (ra_I ((x0 + x1 - 1).tdiv x1))) ∧ s = σ) := by
  refine ra_enter (nn := 0) mt_207 rfl (Nat.le_of_ble_eq_true rfl) rfl (fun h => absurd h (by decide +kernel)) ?_
  refine ra_load rfl rfl rfl rfl ?_
  refine ra_load rfl rfl rfl rfl ?_
  refine ra_iadd rfl ?_
  refine ra_iconst rfl ?_
  refine ra_isub rfl ?_
  refine ra_load rfl rfl rfl rfl ?_
  refine ra_idiv rfl (by first | omega | (unfold ra_in at *; omega)) hx1 (by omega) ?_
  exact ra_ireturn rfl rfl ⟨(congrArg (fun z => Sum.inl (some (ra_I z))) (by first | rfl | omega)), rfl⟩
theorem sp_200 {n : Nat} {f : Nat → Int32} {d : Nat} {x0 : Int} {x1 : Int} {σ : ra_V} (hx0 : ra_in x0) (hx1 : ra_in x1) (hp : -1 ≤ x0 ∧ x0 < 8 ∧ 0 ≤ x1 ∧ x1 < 8) : ra_C (g_Gs n f) g_sh 0 (d + 1) 200 [.index (179), ra_I x0, ra_I x1] σ (fun r s => r = .inl (some (ra_I (wq σ x0 x1))) ∧ s = σ) := by
  refine ra_enter (nn := 0) mt_200 rfl (Nat.le_of_ble_eq_true rfl) rfl (fun h => absurd h (by decide +kernel)) ?_
  refine ra_load rfl rfl rfl rfl ?_
  refine ra_getR rfl lk_8_7 (Nat.zero_le _) sh_179 rfl ?_
  refine ra_bipush rfl (by decide) ?_
  refine ra_bipush rfl (by decide) ?_
  refine ra_load rfl rfl rfl rfl ?_
  refine ra_imul rfl ?_
  refine ra_iadd rfl ?_
  refine ra_load rfl rfl rfl rfl ?_
  refine ra_iadd rfl ?_
  refine ra_iaload rfl sh_180 rfl (by decide) (by first | omega | (unfold ra_in at *; omega)) (by first | omega | (unfold ra_in at *; omega)) ?_
  have hr1 : ra_in (ra_g σ (180) (((24) + ((8) * x0)) + x1).toNat) := (ra_in_g _ _ _)
  exact ra_ireturn rfl rfl ⟨(congrArg (fun z => Sum.inl (some (ra_I z))) (by first | rfl | omega)), rfl⟩
theorem sp_201 {n : Nat} {f : Nat → Int32} {d : Nat} {x0 : Int} {x1 : Int} {x2 : Int} {σ : ra_V} (hx0 : ra_in x0) (hx1 : ra_in x1) (hx2 : ra_in x2) (hp : -1 ≤ x0 ∧ x0 < 8 ∧ 0 ≤ x1 ∧ x1 < 8) : ra_C (g_Gs n f) g_sh 0 (d + 1) 201 [.index (179), ra_I x0, ra_I x1, ra_I x2] σ (fun r s => rV r ∧ Fr (180) (181) σ s ∧ wq s x0 x1 = x2 ∧ (∀ a, a ≠ (24 + 8 * x0 + x1).toNat → ra_g s 180 a = ra_g σ 180 a)) := by
  refine ra_enter (nn := 0) mt_201 rfl (Nat.le_of_ble_eq_true rfl) rfl (fun h => absurd h (by decide +kernel)) ?_
  refine ra_load rfl rfl rfl rfl ?_
  refine ra_getR rfl lk_8_7 (Nat.zero_le _) sh_179 rfl ?_
  refine ra_bipush rfl (by decide) ?_
  refine ra_bipush rfl (by decide) ?_
  refine ra_load rfl rfl rfl rfl ?_
  refine ra_imul rfl ?_
  refine ra_iadd rfl ?_
  refine ra_load rfl rfl rfl rfl ?_
  refine ra_iadd rfl ?_
  refine ra_load rfl rfl rfl rfl ?_
  refine ra_iastore rfl sh_180 rfl (by decide) (by first | omega | (unfold ra_in at *; omega)) (by first | omega | (unfold ra_in at *; omega)) ?_
  refine ra_newR hx2 (fun s1 hs1 hs1v hs1o => ?_)
  have hF2 := Fr_tr (lo := 180) (hi := 181) Fr_rf hs1 (by omega)
  exact ra_return rfl rfl ⟨rfl, ⟨hF2, hs1v, hs1o⟩⟩
theorem sp_194 {n : Nat} {f : Nat → Int32} {d : Nat} {x0 : Int} {x1 : Int} {σ : ra_V} (hx0 : x0 = 0 ∨ x0 = 1) (hx1 : ra_in x1) : ra_C (g_Gs n f) g_sh 0 (d + 1) 194 [.index (179), ra_I x0, ra_I x1] σ (fun r s => r = .inl (some (ra_I (x0))) ∧ Fr (179) (180) σ s ∧ (∀ a, a ≠ 7 → ra_g s 179 a = ra_g σ 179 a)) := by
  refine ra_enter (nn := 0) mt_194 rfl (Nat.le_of_ble_eq_true rfl) rfl (fun h => absurd h (by decide +kernel)) ?_
  refine ra_load rfl rfl rfl rfl ?_
  refine ra_ifeq rfl rfl (ra_in01 hx0) (fun h1 => ?_) (fun h1 => ?_)
  · refine ra_load rfl rfl rfl rfl ?_
    exact ra_ireturn rfl (ra_okB hx0) ⟨(congrArg (fun z => Sum.inl (some (ra_I z))) (by first | rfl | omega)), ⟨Fr_rf, fun _ _ => rfl⟩⟩
  · refine ra_load rfl rfl rfl rfl ?_
    refine ra_load rfl rfl rfl rfl ?_
    refine ra_putI rfl lk_8_51 (Nat.zero_le _) sh_179 rfl rfl ?_
    refine ra_newU hx1 (fun s2 hs2 hp6 hp6o => ?_)
    have hF3 := Fr_tr (lo := 179) (hi := 180) Fr_rf hs2 (by omega)
    refine ra_load rfl rfl rfl rfl ?_
    exact ra_ireturn rfl (ra_okB hx0) ⟨(congrArg (fun z => Sum.inl (some (ra_I z))) (by first | rfl | omega)), ⟨hF3, hp6o⟩⟩
theorem sp_202 {n : Nat} {f : Nat → Int32} {d : Nat} {x0 : Int} {σ : ra_V} (hx0 : ra_in x0) : ra_C (g_Gs n f) g_sh 0 (d + 2) 202 [.index (179), ra_I x0] σ (fun r s => (∃ z : Int, (z = 0 ∨ z = 1) ∧ (z = 1 ↔ (0 ≤ x0 ∧ x0 < 8 ∧ wq σ x0 0 = 1)) ∧ r = .inl (some (ra_I z))) ∧ s = σ) := by
  refine ra_enter (nn := 0) mt_202 rfl (Nat.le_of_ble_eq_true rfl) rfl (fun h => absurd h (by decide +kernel)) ?_
  refine ra_load rfl rfl rfl rfl ?_
  refine ra_i2l rfl hx0 ?_
  refine ra_lconst0 rfl ?_
  refine ra_ldc2 (z := 7) rfl lk_8_61 (by decide) ?_
  refine ra_cTp (sp_193 hx0 (by first | omega | (unfold ra_in at *; omega)) (by first | omega | (unfold ra_in at *; omega))) rfl (ct_193 rfl lk_8_63 (Or.inl rfl) (Nat.le_of_ble_eq_true rfl)) ?_
  refine ra_ifeqB rfl rfl (fun h2 => ?_) (fun h2 => ?_)
  · refine ra_iconst rfl ?_
    exact ra_ireturn rfl (ra_okB (Or.inl rfl)) ⟨⟨_, (Or.inl rfl), (by omega), rfl⟩, rfl⟩
  · refine ra_load rfl rfl rfl rfl ?_
    refine ra_load rfl rfl rfl rfl ?_
    refine ra_iconst rfl ?_
    refine ra_cTp (sp_200 hx0 (by first | omega | (unfold ra_in at *; omega)) (by first | assumption | rfl | omega)) rfl (ct_200 rfl lk_8_67 (Or.inl rfl) sh_179 (Nat.le_of_ble_eq_true rfl)) ?_
    have hr4 : ra_in (wq σ x0 (0)) := (ra_in_wq _ _ _)
    refine ra_iconst rfl ?_
    refine ra_icne rfl rfl hr4 (by first | omega | (unfold ra_in at *; omega)) (fun h5 => ?_) (fun h5 => ?_)
    · refine ra_iconst rfl ?_
      exact ra_ireturn rfl (ra_okB (Or.inl rfl)) ⟨⟨_, (Or.inl rfl), (by omega), rfl⟩, rfl⟩
    · refine ra_iconst rfl ?_
      refine ra_goto rfl rfl ?_
      exact ra_ireturn rfl (ra_okB (Or.inr rfl)) ⟨⟨_, (Or.inr rfl), (by omega), rfl⟩, rfl⟩
theorem sp_204 {n : Nat} {f : Nat → Int32} {d : Nat}  {σ : ra_V}  : ra_C (g_Gs n f) g_sh 0 (d + 1) 204 [.index (179)] σ (fun r s => (∃ z : Int, (z = 0 ∨ z = 1) ∧ (z = 1 ↔ ra_g σ 180 16 ≠ -1) ∧ r = .inl (some (ra_I z))) ∧ s = σ) := by
  refine ra_enter (nn := 0) mt_204 rfl (Nat.le_of_ble_eq_true rfl) rfl (fun h => absurd h (by decide +kernel)) ?_
  refine ra_load rfl rfl rfl rfl ?_
  refine ra_getR rfl lk_8_7 (Nat.zero_le _) sh_179 rfl ?_
  refine ra_bipush rfl (by decide) ?_
  refine ra_ialoadJ (j := 16) rfl sh_180 rfl (by decide) rfl (by decide) ?_
  have hr1 : ra_in (ra_g σ (180) 16) := (ra_in_g _ _ _)
  refine ra_iconst rfl ?_
  refine ra_iceq rfl rfl hr1 (by first | omega | (unfold ra_in at *; omega)) (fun h2 => ?_) (fun h2 => ?_)
  · refine ra_iconst rfl ?_
    exact ra_ireturn rfl (ra_okB (Or.inl rfl)) ⟨⟨_, (Or.inl rfl), (by omega), rfl⟩, rfl⟩
  · refine ra_iconst rfl ?_
    refine ra_goto rfl rfl ?_
    exact ra_ireturn rfl (ra_okB (Or.inr rfl)) ⟨⟨_, (Or.inr rfl), (by omega), rfl⟩, rfl⟩
theorem sp_205 {n : Nat} {f : Nat → Int32} {d : Nat} {x0 : Int} {σ : ra_V} (hx0 : ra_in x0) : ra_C (g_Gs n f) g_sh 0 (d + 1) 205 [.index (179), ra_I x0] σ (fun r s => (∃ z : Int, (z = 0 ∨ z = 1) ∧ (z = 1 ↔ ra_g σ 180 16 = x0) ∧ r = .inl (some (ra_I z))) ∧ s = σ) := by
  refine ra_enter (nn := 0) mt_205 rfl (Nat.le_of_ble_eq_true rfl) rfl (fun h => absurd h (by decide +kernel)) ?_
  refine ra_load rfl rfl rfl rfl ?_
  refine ra_getR rfl lk_8_7 (Nat.zero_le _) sh_179 rfl ?_
  refine ra_bipush rfl (by decide) ?_
  refine ra_ialoadJ (j := 16) rfl sh_180 rfl (by decide) rfl (by decide) ?_
  have hr1 : ra_in (ra_g σ (180) 16) := (ra_in_g _ _ _)
  refine ra_load rfl rfl rfl rfl ?_
  refine ra_icne rfl rfl hr1 hx0 (fun h2 => ?_) (fun h2 => ?_)
  · refine ra_iconst rfl ?_
    exact ra_ireturn rfl (ra_okB (Or.inl rfl)) ⟨⟨_, (Or.inl rfl), (by omega), rfl⟩, rfl⟩
  · refine ra_iconst rfl ?_
    refine ra_goto rfl rfl ?_
    exact ra_ireturn rfl (ra_okB (Or.inr rfl)) ⟨⟨_, (Or.inr rfl), (by omega), rfl⟩, rfl⟩
theorem sp_206 {n : Nat} {f : Nat → Int32} {d : Nat} {x0 : Int} {σ : ra_V} (hx0 : ra_in x0) (hp : -1 ≤ x0 ∧ x0 < 8) : ra_C (g_Gs n f) g_sh 0 (d + 2) 206 [.index (179), ra_I x0] σ (fun r s => (∃ z : Int, (z = 0 ∨ z = 1) ∧ (z = 0 → (wq σ x0 5 ≠ 1 ∧ ra_g σ 180 16 ≠ x0)) ∧ r = .inl (some (ra_I z))) ∧ s = σ) := by
  refine ra_enter (nn := 0) mt_206 rfl (Nat.le_of_ble_eq_true rfl) rfl (fun h => absurd h (by decide +kernel)) ?_
  refine ra_load rfl rfl rfl rfl ?_
  refine ra_load rfl rfl rfl rfl ?_
  refine ra_iconst rfl ?_
  refine ra_cTp (sp_200 hx0 (by first | omega | (unfold ra_in at *; omega)) (by first | assumption | rfl | omega)) rfl (ct_200 rfl lk_8_67 (Or.inl rfl) sh_179 (Nat.le_of_ble_eq_true rfl)) ?_
  have hr2 : ra_in (wq σ x0 (5)) := (ra_in_wq _ _ _)
  refine ra_iconst rfl ?_
  refine ra_iceq rfl rfl hr2 (by first | omega | (unfold ra_in at *; omega)) (fun h3 => ?_) (fun h3 => ?_)
  · refine ra_iconst rfl ?_
    refine ra_goto rfl rfl ?_
    exact ra_ireturn rfl (ra_okB (Or.inr rfl)) ⟨⟨_, (Or.inr rfl), (by omega), rfl⟩, rfl⟩
  · refine ra_load rfl rfl rfl rfl ?_
    refine ra_load rfl rfl rfl rfl ?_
    refine ra_cQPp (sp_205 hx0) rfl (ct_205 rfl lk_8_71 (Or.inl rfl) sh_179 (Nat.le_of_ble_eq_true rfl)) (fun z5 hz5 hz5p => ?_)
    refine ra_ifeq rfl rfl (ra_in01 hz5) (fun h6 => ?_) (fun h6 => ?_)
    · refine ra_iconst rfl ?_
      exact ra_ireturn rfl (ra_okB (Or.inl rfl)) ⟨⟨_, (Or.inl rfl), (by omega), rfl⟩, rfl⟩
    · refine ra_iconst rfl ?_
      refine ra_goto rfl rfl ?_
      exact ra_ireturn rfl (ra_okB (Or.inr rfl)) ⟨⟨_, (Or.inr rfl), (by omega), rfl⟩, rfl⟩
theorem sp_211 {n : Nat} {f : Nat → Int32} {d : Nat} {x0 : Int} {x1 : Int} {σ : ra_V} (hx0 : ra_in x0) (hx1 : ra_in x1) (hw : WFa σ) : ra_C (g_Gs n f) g_sh 0 (d + 1) 211 [.index (179), ra_J x0, ra_J x1] σ (fun r s => (∃ z : Int, (z = 0 ∨ z = 1) ∧ (z = 1 ↔ US σ x0 x1) ∧ r = .inl (some (ra_I z))) ∧ s = σ) := by
  refine ra_enter (nn := 0) mt_211 rfl (Nat.le_of_ble_eq_true rfl) rfl (fun h => absurd h (by decide +kernel)) ?_
  have hw0 := hw
  unfold WFa at hw0
  refine ra_load rfl rfl rfl rfl ?_
  refine ra_lconst1 rfl ?_
  refine ra_lcmp rfl (by unfold ra_in6; first | omega | (unfold ra_in at *; omega)) (by unfold ra_in6; first | omega | (unfold ra_in at *; omega)) ?_
  refine ra_iflt rfl rfl (ra_in_cmp _ _) (fun h1 => ?_) (fun h1 => ?_)
  · rw [ra_cmp_lt] at h1
    refine ra_iconst rfl ?_
    exact ra_ireturn rfl (ra_okB (Or.inl rfl)) ⟨⟨_, (Or.inl rfl), (by unfold US; omega), rfl⟩, rfl⟩
  · rw [ra_cmp_ge] at h1
    refine ra_load rfl rfl rfl rfl ?_
    refine ra_load rfl rfl rfl rfl ?_
    refine ra_getR rfl lk_8_7 (Nat.zero_le _) sh_179 rfl ?_
    refine ra_iconst rfl ?_
    refine ra_ialoadJ (j := 1) rfl sh_180 rfl (by decide) rfl (by decide) ?_
    have hr2 : ra_in (ra_g σ (180) 1) := (ra_in_g _ _ _)
    refine ra_i2l rfl hr2 ?_
    refine ra_lcmp rfl (by unfold ra_in6; first | omega | (unfold ra_in at *; omega)) (by unfold ra_in6; first | omega | (unfold ra_in at *; omega)) ?_
    refine ra_iflt rfl rfl (ra_in_cmp _ _) (fun h3 => ?_) (fun h3 => ?_)
    · rw [ra_cmp_lt] at h3
      refine ra_iconst rfl ?_
      exact ra_ireturn rfl (ra_okB (Or.inl rfl)) ⟨⟨_, (Or.inl rfl), (by unfold US; omega), rfl⟩, rfl⟩
    · rw [ra_cmp_ge] at h3
      refine ra_load rfl rfl rfl rfl ?_
      refine ra_load rfl rfl rfl rfl ?_
      refine ra_ladd rfl ?_
      refine ra_load rfl rfl rfl rfl ?_
      refine ra_getR rfl lk_8_7 (Nat.zero_le _) sh_179 rfl ?_
      refine ra_iconst rfl ?_
      refine ra_ialoadJ (j := 0) rfl sh_180 rfl (by decide) rfl (by decide) ?_
      have hr4 : ra_in (ra_g σ (180) 0) := (ra_in_g _ _ _)
      refine ra_load rfl rfl rfl rfl ?_
      refine ra_getR rfl lk_8_7 (Nat.zero_le _) sh_179 rfl ?_
      refine ra_iconst rfl ?_
      refine ra_ialoadJ (j := 2) rfl sh_180 rfl (by decide) rfl (by decide) ?_
      have hr5 : ra_in (ra_g σ (180) 2) := (ra_in_g _ _ _)
      refine ra_isub rfl ?_
      refine ra_i2l rfl (by first | omega | (unfold ra_in at *; omega)) ?_
      refine ra_lcmp rfl (by unfold ra_in6; first | omega | (unfold ra_in at *; omega)) (by unfold ra_in6; first | omega | (unfold ra_in at *; omega)) ?_
      refine ra_ifgt rfl rfl (ra_in_cmp _ _) (fun h6 => ?_) (fun h6 => ?_)
      · rw [ra_cmp_gt] at h6
        refine ra_iconst rfl ?_
        exact ra_ireturn rfl (ra_okB (Or.inl rfl)) ⟨⟨_, (Or.inl rfl), (by unfold US; omega), rfl⟩, rfl⟩
      · rw [ra_cmp_le] at h6
        refine ra_iconst rfl ?_
        refine ra_goto rfl rfl ?_
        exact ra_ireturn rfl (ra_okB (Or.inr rfl)) ⟨⟨_, (Or.inr rfl), (by unfold US; omega), rfl⟩, rfl⟩
end RB
end
section
/-! the reference: what its methods do (printed by wip/gen/ref.py) -/
section RB
theorem lp_213_6 {n : Nat} {f : Nat → Int32} {d : Nat} {x0 : Int} {x1 : Int} {x2 : Int} {σ : ra_V} (hx0 : ra_in x0) (hx1 : ra_in x1) (hx2 : ra_in x2) : ∀ (nn : Nat) (v6 : Int) (v7 : Int) (hv6_0 : v6 = 0 ∨ v6 = 1) (hv6_1 : v6 = 1 ↔ ∃ p, 0 ≤ p ∧ p < v7 ∧ p ≠ x2 ∧ wq σ p 0 = 1 ∧ x0 < wq σ p 1 + wq σ p 2 ∧ wq σ p 1 < x0 + x1) (hv7_0 : 0 ≤ v7) (hv7_1 : v7 ≤ 8) (hm : ((8 - v7 : Int)).toNat < nn), ra_P (g_Gs n f) g_sh 0 (d + 1) g_m_X8_isTaken 6 [some (.index (179)), some (ra_J x0), none, some (ra_J x1), none, some (ra_I x2), some (ra_I v6), some (ra_I v7)] [] σ (fun r s => (∃ z : Int, (z = 0 ∨ z = 1) ∧ (z = 1 ↔ TK σ x0 x1 x2) ∧ r = .inl (some (ra_I z))) ∧ s = σ) := by
  intro nn
  induction nn with
  | zero => intro v6 v7 hv6_0 hv6_1 hv7_0 hv7_1 hm; exact absurd hm (Nat.not_lt_zero _)
  | succ nn ih =>
    intro v6 v7 hv6_0 hv6_1 hv7_0 hv7_1 hm
    refine ra_load rfl rfl rfl rfl ?_
    refine ra_bipush rfl (by decide) ?_
    refine ra_icge rfl rfl (by first | omega | (unfold ra_in at *; omega)) (by first | omega | (unfold ra_in at *; omega)) (fun h1 => ?_) (fun h1 => ?_)
    · refine ra_load rfl rfl rfl rfl ?_
      exact ra_ireturn rfl (ra_okB hv6_0) ⟨⟨_, hv6_0, (by obtain rfl : v7 = 8 := (by omega); exact hv6_1), rfl⟩, rfl⟩
    · refine ra_load rfl rfl rfl rfl ?_
      refine ra_ifne rfl rfl (ra_in01 hv6_0) (fun h2 => ?_) (fun h2 => ?_)
      · refine ra_iconst rfl ?_
        refine ra_goto rfl rfl ?_
        refine ra_store (L' := [_, _, _, _, _, _, _, _]) rfl rfl rfl (Nat.le_of_ble_eq_true rfl) rfl ?_
        refine ra_iinc (L' := [_, _, _, _, _, _, _, _]) rfl rfl (Nat.le_of_ble_eq_true rfl) rfl ?_
        refine ra_goto rfl rfl ?_
        exact ra_weak (by repeat' constructor) (ih (1) (v7 + 1) (Or.inr rfl) (by first | exact iff_of_false (by decide) (by rintro ⟨p, h1, h2, -⟩; omega) | exact iff_of_true rfl (ex_s1 (hv6_1.mp (by omega))) | exact iff_of_true rfl (ex_s2 (by omega) ⟨by omega, by omega, by omega, by omega⟩) | exact iff_of_false (by decide) (ex_s0 (fun q => absurd (hv6_1.mpr q) (by omega)) (by rintro ⟨a1, a2, a3, a4⟩; omega))) (by first | omega | (unfold ra_in at *; omega)) (by first | omega | (unfold ra_in at *; omega)) (by first | omega | (unfold ra_in at *; omega)))
      · refine ra_load rfl rfl rfl rfl ?_
        refine ra_load rfl rfl rfl rfl ?_
        refine ra_iceq rfl rfl (by first | omega | (unfold ra_in at *; omega)) hx2 (fun h3 => ?_) (fun h3 => ?_)
        · refine ra_iconst rfl ?_
          refine ra_store (L' := [_, _, _, _, _, _, _, _]) rfl rfl rfl (Nat.le_of_ble_eq_true rfl) rfl ?_
          refine ra_iinc (L' := [_, _, _, _, _, _, _, _]) rfl rfl (Nat.le_of_ble_eq_true rfl) rfl ?_
          refine ra_goto rfl rfl ?_
          exact ra_weak (by repeat' constructor) (ih (0) (v7 + 1) (Or.inl rfl) (by first | exact iff_of_false (by decide) (by rintro ⟨p, h1, h2, -⟩; omega) | exact iff_of_true rfl (ex_s1 (hv6_1.mp (by omega))) | exact iff_of_true rfl (ex_s2 (by omega) ⟨by omega, by omega, by omega, by omega⟩) | exact iff_of_false (by decide) (ex_s0 (fun q => absurd (hv6_1.mpr q) (by omega)) (by rintro ⟨a1, a2, a3, a4⟩; omega))) (by first | omega | (unfold ra_in at *; omega)) (by first | omega | (unfold ra_in at *; omega)) (by first | omega | (unfold ra_in at *; omega)))
        · refine ra_load rfl rfl rfl rfl ?_
          refine ra_load rfl rfl rfl rfl ?_
          refine ra_iconst rfl ?_
          refine ra_cTp (sp_200 (by first | omega | (unfold ra_in at *; omega)) (by first | omega | (unfold ra_in at *; omega)) (by first | assumption | rfl | omega)) rfl (ct_200 rfl lk_8_67 (Or.inl rfl) sh_179 (Nat.le_of_ble_eq_true rfl)) ?_
          have hr5 : ra_in (wq σ v7 (0)) := (ra_in_wq _ _ _)
          refine ra_iconst rfl ?_
          refine ra_icne rfl rfl hr5 (by first | omega | (unfold ra_in at *; omega)) (fun h6 => ?_) (fun h6 => ?_)
          · refine ra_iconst rfl ?_
            refine ra_store (L' := [_, _, _, _, _, _, _, _]) rfl rfl rfl (Nat.le_of_ble_eq_true rfl) rfl ?_
            refine ra_iinc (L' := [_, _, _, _, _, _, _, _]) rfl rfl (Nat.le_of_ble_eq_true rfl) rfl ?_
            refine ra_goto rfl rfl ?_
            exact ra_weak (by repeat' constructor) (ih (0) (v7 + 1) (Or.inl rfl) (by first | exact iff_of_false (by decide) (by rintro ⟨p, h1, h2, -⟩; omega) | exact iff_of_true rfl (ex_s1 (hv6_1.mp (by omega))) | exact iff_of_true rfl (ex_s2 (by omega) ⟨by omega, by omega, by omega, by omega⟩) | exact iff_of_false (by decide) (ex_s0 (fun q => absurd (hv6_1.mpr q) (by omega)) (by rintro ⟨a1, a2, a3, a4⟩; omega))) (by first | omega | (unfold ra_in at *; omega)) (by first | omega | (unfold ra_in at *; omega)) (by first | omega | (unfold ra_in at *; omega)))
          · refine ra_load rfl rfl rfl rfl ?_
            refine ra_load rfl rfl rfl rfl ?_
            refine ra_load rfl rfl rfl rfl ?_
            refine ra_load rfl rfl rfl rfl ?_
            refine ra_iconst rfl ?_
            refine ra_cTp (sp_200 (by first | omega | (unfold ra_in at *; omega)) (by first | omega | (unfold ra_in at *; omega)) (by first | assumption | rfl | omega)) rfl (ct_200 rfl lk_8_67 (Or.inl rfl) sh_179 (Nat.le_of_ble_eq_true rfl)) ?_
            have hr8 : ra_in (wq σ v7 (1)) := (ra_in_wq _ _ _)
            refine ra_i2l rfl hr8 ?_
            refine ra_load rfl rfl rfl rfl ?_
            refine ra_load rfl rfl rfl rfl ?_
            refine ra_iconst rfl ?_
            refine ra_cTp (sp_200 (by first | omega | (unfold ra_in at *; omega)) (by first | omega | (unfold ra_in at *; omega)) (by first | assumption | rfl | omega)) rfl (ct_200 rfl lk_8_67 (Or.inl rfl) sh_179 (Nat.le_of_ble_eq_true rfl)) ?_
            have hr10 : ra_in (wq σ v7 (2)) := (ra_in_wq _ _ _)
            refine ra_i2l rfl hr10 ?_
            refine ra_cTp (sp_212 hx0 hx1 hr8 hr10) rfl (ct_212 rfl lk_8_86 (Or.inl rfl) (Nat.le_of_ble_eq_true rfl)) ?_
            refine ra_ifeqB rfl rfl (fun h12 => ?_) (fun h12 => ?_)
            · refine ra_iconst rfl ?_
              refine ra_store (L' := [_, _, _, _, _, _, _, _]) rfl rfl rfl (Nat.le_of_ble_eq_true rfl) rfl ?_
              refine ra_iinc (L' := [_, _, _, _, _, _, _, _]) rfl rfl (Nat.le_of_ble_eq_true rfl) rfl ?_
              refine ra_goto rfl rfl ?_
              exact ra_weak (by repeat' constructor) (ih (0) (v7 + 1) (Or.inl rfl) (by first | exact iff_of_false (by decide) (by rintro ⟨p, h1, h2, -⟩; omega) | exact iff_of_true rfl (ex_s1 (hv6_1.mp (by omega))) | exact iff_of_true rfl (ex_s2 (by omega) ⟨by omega, by omega, by omega, by omega⟩) | exact iff_of_false (by decide) (ex_s0 (fun q => absurd (hv6_1.mpr q) (by omega)) (by rintro ⟨a1, a2, a3, a4⟩; omega))) (by first | omega | (unfold ra_in at *; omega)) (by first | omega | (unfold ra_in at *; omega)) (by first | omega | (unfold ra_in at *; omega)))
            · refine ra_iconst rfl ?_
              refine ra_goto rfl rfl ?_
              refine ra_store (L' := [_, _, _, _, _, _, _, _]) rfl rfl rfl (Nat.le_of_ble_eq_true rfl) rfl ?_
              refine ra_iinc (L' := [_, _, _, _, _, _, _, _]) rfl rfl (Nat.le_of_ble_eq_true rfl) rfl ?_
              refine ra_goto rfl rfl ?_
              exact ra_weak (by repeat' constructor) (ih (1) (v7 + 1) (Or.inr rfl) (by first | exact iff_of_false (by decide) (by rintro ⟨p, h1, h2, -⟩; omega) | exact iff_of_true rfl (ex_s1 (hv6_1.mp (by omega))) | exact iff_of_true rfl (ex_s2 (by omega) ⟨by omega, by omega, by omega, by omega⟩) | exact iff_of_false (by decide) (ex_s0 (fun q => absurd (hv6_1.mpr q) (by omega)) (by rintro ⟨a1, a2, a3, a4⟩; omega))) (by first | omega | (unfold ra_in at *; omega)) (by first | omega | (unfold ra_in at *; omega)) (by first | omega | (unfold ra_in at *; omega)))
theorem sp_213 {n : Nat} {f : Nat → Int32} {d : Nat} {x0 : Int} {x1 : Int} {x2 : Int} {σ : ra_V} (hx0 : ra_in x0) (hx1 : ra_in x1) (hx2 : ra_in x2) : ra_C (g_Gs n f) g_sh 0 (d + 2) 213 [.index (179), ra_J x0, ra_J x1, ra_I x2] σ (fun r s => (∃ z : Int, (z = 0 ∨ z = 1) ∧ (z = 1 ↔ TK σ x0 x1 x2) ∧ r = .inl (some (ra_I z))) ∧ s = σ) := by
  refine ra_enter (nn := 2) mt_213 rfl (Nat.le_of_ble_eq_true rfl) rfl (fun h => absurd h (by decide +kernel)) ?_
  refine ra_iconst rfl ?_
  refine ra_store (L' := [_, _, _, _, _, _, _, _]) rfl rfl rfl (Nat.le_of_ble_eq_true rfl) rfl ?_
  refine ra_iconst rfl ?_
  refine ra_store (L' := [_, _, _, _, _, _, _, _]) rfl rfl rfl (Nat.le_of_ble_eq_true rfl) rfl ?_
  exact ra_weak (by repeat' constructor) (lp_213_6 hx0 hx1 hx2 _ (0) (0) (Or.inl rfl) (by first | exact iff_of_false (by decide) (by rintro ⟨p, h1, h2, -⟩; omega) | exact iff_of_true rfl (ex_s1 (hv6_1.mp (by omega))) | exact iff_of_true rfl (ex_s2 (by omega) ⟨by omega, by omega, by omega, by omega⟩) | exact iff_of_false (by decide) (ex_s0 (fun q => absurd (hv6_1.mpr q) (by omega)) (by rintro ⟨a1, a2, a3, a4⟩; omega))) (by first | omega | (unfold ra_in at *; omega)) (by first | omega | (unfold ra_in at *; omega)) (Nat.lt_succ_self _))
theorem sp_214 {n : Nat} {f : Nat → Int32} {d : Nat}  {σ : ra_V} (hw : WFa σ) : ra_C (g_Gs n f) g_sh 0 (d + 2) 214 [.index (179)] σ (fun r s => rI r ∧ s = σ) := by
  refine ra_enter (nn := 0) mt_214 rfl (Nat.le_of_ble_eq_true rfl) rfl (fun h => absurd h (by decide +kernel)) ?_
  have hw0 := hw
  unfold WFa at hw0
  refine ra_load rfl rfl rfl rfl ?_
  refine ra_getR rfl lk_8_7 (Nat.zero_le _) sh_179 rfl ?_
  refine ra_bipush rfl (by decide) ?_
  refine ra_ialoadJ (j := 19) rfl sh_180 rfl (by decide) rfl (by decide) ?_
  have hr1 : ra_in (ra_g σ (180) 19) := (ra_in_g _ _ _)
  refine ra_load rfl rfl rfl rfl ?_
  refine ra_load rfl rfl rfl rfl ?_
  refine ra_getR rfl lk_8_7 (Nat.zero_le _) sh_179 rfl ?_
  refine ra_bipush rfl (by decide) ?_
  refine ra_ialoadJ (j := 16) rfl sh_180 rfl (by decide) rfl (by decide) ?_
  have hr2 : ra_in (ra_g σ (180) 16) := (ra_in_g _ _ _)
  refine ra_iconst rfl ?_
  refine ra_cTp (sp_200 hr2 (by first | omega | (unfold ra_in at *; omega)) (by first | assumption | rfl | omega)) rfl (ct_200 rfl lk_8_67 (Or.inl rfl) sh_179 (Nat.le_of_ble_eq_true rfl)) ?_
  have hr4 : ra_in (wq σ (ra_g σ (180) 16) (2)) := (ra_in_wq _ _ _)
  refine ra_min rfl lk_8_90 hr1 hr4 (Nat.le_of_ble_eq_true rfl) ?_
  exact ra_ireturn rfl rfl ⟨⟨_, (by first | omega | (unfold ra_in at *; omega)), rfl⟩, rfl⟩
theorem sp_215 {n : Nat} {f : Nat → Int32} {d : Nat} {x0 : Int} {x1 : Int} {σ : ra_V} (hx0 : ra_in x0) (hx1 : ra_in x1) (hw : WFa σ) : ra_C (g_Gs n f) g_sh 0 (d + 3) 215 [.index (179), ra_J x0, ra_J x1] σ (fun r s => (∃ z : Int, (z = 0 ∨ z = 1) ∧ ((z = 0 → ¬ BT σ x0 x1) ∧ (x1 < 1 → z = 0)) ∧ r = .inl (some (ra_I z))) ∧ s = σ) := by
  refine ra_enter (nn := 0) mt_215 rfl (Nat.le_of_ble_eq_true rfl) rfl (fun h => absurd h (by decide +kernel)) ?_
  have hw0 := hw
  unfold WFa at hw0
  refine ra_load rfl rfl rfl rfl ?_
  refine ra_cQPp (sp_204 ) rfl (ct_204 rfl lk_8_95 (Or.inl rfl) sh_179 (Nat.le_of_ble_eq_true rfl)) (fun z2 hz2 hz2p => ?_)
  refine ra_ifeq rfl rfl (ra_in01 hz2) (fun h3 => ?_) (fun h3 => ?_)
  · refine ra_iconst rfl ?_
    exact ra_ireturn rfl (ra_okB (Or.inl rfl)) ⟨⟨_, (Or.inl rfl), (by unfold BT; refine ⟨fun hq => ?_, fun hq => ?_⟩ <;> omega), rfl⟩, rfl⟩
  · refine ra_load rfl rfl rfl rfl ?_
    refine ra_lconst1 rfl ?_
    refine ra_lcmp rfl (by unfold ra_in6; first | omega | (unfold ra_in at *; omega)) (by unfold ra_in6; first | omega | (unfold ra_in at *; omega)) ?_
    refine ra_ifge rfl rfl (ra_in_cmp _ _) (fun h4 => ?_) (fun h4 => ?_)
    · rw [ra_cmp_ge] at h4
      refine ra_load rfl rfl rfl rfl ?_
      refine ra_load rfl rfl rfl rfl ?_
      refine ra_load rfl rfl rfl rfl ?_
      refine ra_getR rfl lk_8_7 (Nat.zero_le _) sh_179 rfl ?_
      refine ra_bipush rfl (by decide) ?_
      refine ra_ialoadJ (j := 18) rfl sh_180 rfl (by decide) rfl (by decide) ?_
      have hr5 : ra_in (ra_g σ (180) 18) := (ra_in_g _ _ _)
      refine ra_i2l rfl hr5 ?_
      refine ra_load rfl rfl rfl rfl ?_
      refine ra_load rfl rfl rfl rfl ?_
      refine ra_getR rfl lk_8_7 (Nat.zero_le _) sh_179 rfl ?_
      refine ra_bipush rfl (by decide) ?_
      refine ra_ialoadJ (j := 16) rfl sh_180 rfl (by decide) rfl (by decide) ?_
      have hr6 : ra_in (ra_g σ (180) 16) := (ra_in_g _ _ _)
      refine ra_iconst rfl ?_
      refine ra_cTp (sp_200 hr6 (by first | omega | (unfold ra_in at *; omega)) (by first | assumption | rfl | omega)) rfl (ct_200 rfl lk_8_67 (Or.inl rfl) sh_179 (Nat.le_of_ble_eq_true rfl)) ?_
      have hr8 : ra_in (wq σ (ra_g σ (180) 16) (2)) := (ra_in_wq _ _ _)
      refine ra_i2l rfl hr8 ?_
      refine ra_cTp (sp_212 hx0 hx1 hr5 hr8) rfl (ct_212 rfl lk_8_86 (Or.inl rfl) (Nat.le_of_ble_eq_true rfl)) ?_
      refine ra_ifneB rfl rfl (fun h10 => ?_) (fun h10 => ?_)
      · refine ra_iconst rfl ?_
        refine ra_goto rfl rfl ?_
        exact ra_ireturn rfl (ra_okB (Or.inr rfl)) ⟨⟨_, (Or.inr rfl), (by unfold BT; refine ⟨fun hq => ?_, fun hq => ?_⟩ <;> omega), rfl⟩, rfl⟩
      · refine ra_load rfl rfl rfl rfl ?_
        refine ra_getR rfl lk_8_7 (Nat.zero_le _) sh_179 rfl ?_
        refine ra_bipush rfl (by decide) ?_
        refine ra_ialoadJ (j := 20) rfl sh_180 rfl (by decide) rfl (by decide) ?_
        have hr11 : ra_in (ra_g σ (180) 20) := (ra_in_g _ _ _)
        refine ra_iconst rfl ?_
        refine ra_iceq rfl rfl hr11 (by first | omega | (unfold ra_in at *; omega)) (fun h12 => ?_) (fun h12 => ?_)
        · refine ra_iconst rfl ?_
          exact ra_ireturn rfl (ra_okB (Or.inl rfl)) ⟨⟨_, (Or.inl rfl), (by unfold BT; refine ⟨fun hq => ?_, fun hq => ?_⟩ <;> omega), rfl⟩, rfl⟩
        · refine ra_load rfl rfl rfl rfl ?_
          refine ra_load rfl rfl rfl rfl ?_
          refine ra_load rfl rfl rfl rfl ?_
          refine ra_getR rfl lk_8_7 (Nat.zero_le _) sh_179 rfl ?_
          refine ra_bipush rfl (by decide) ?_
          refine ra_ialoadJ (j := 20) rfl sh_180 rfl (by decide) rfl (by decide) ?_
          have hr13 : ra_in (ra_g σ (180) 20) := (ra_in_g _ _ _)
          refine ra_i2l rfl hr13 ?_
          refine ra_load rfl rfl rfl rfl ?_
          refine ra_cIp (sp_214 hw) rfl (ct_214 rfl lk_8_99 (Or.inl rfl) sh_179 (Nat.le_of_ble_eq_true rfl)) (fun z15 hz15 => ?_)
          refine ra_i2l rfl hz15 ?_
          refine ra_cTp (sp_212 hx0 hx1 hr13 hz15) rfl (ct_212 rfl lk_8_86 (Or.inl rfl) (Nat.le_of_ble_eq_true rfl)) ?_
          refine ra_ifeqB rfl rfl (fun h17 => ?_) (fun h17 => ?_)
          · refine ra_iconst rfl ?_
            exact ra_ireturn rfl (ra_okB (Or.inl rfl)) ⟨⟨_, (Or.inl rfl), (by unfold BT; refine ⟨fun hq => ?_, fun hq => ?_⟩ <;> omega), rfl⟩, rfl⟩
          · refine ra_iconst rfl ?_
            refine ra_goto rfl rfl ?_
            exact ra_ireturn rfl (ra_okB (Or.inr rfl)) ⟨⟨_, (Or.inr rfl), (by unfold BT; refine ⟨fun hq => ?_, fun hq => ?_⟩ <;> omega), rfl⟩, rfl⟩
    · rw [ra_cmp_lt] at h4
      refine ra_iconst rfl ?_
      exact ra_ireturn rfl (ra_okB (Or.inl rfl)) ⟨⟨_, (Or.inl rfl), (by unfold BT; refine ⟨fun hq => ?_, fun hq => ?_⟩ <;> omega), rfl⟩, rfl⟩
theorem sp_216 {n : Nat} {f : Nat → Int32} {d : Nat} {x0 : Int} {x1 : Int} {σ : ra_V} (hx0 : ra_in x0) (hx1 : ra_in x1) (hw : WFa σ) : ra_C (g_Gs n f) g_sh 0 (d + 4) 216 [.index (179), ra_I x0, ra_I x1] σ (fun r s => (∃ z, ra_in z ∧ (z = 0 → (US σ x0 x1 ∧ ¬ TK σ x0 x1 (-1) ∧ ¬ BT σ x0 x1)) ∧ r = .inl (some (ra_I z))) ∧ s = σ) := by
  refine ra_enter (nn := 0) mt_216 rfl (Nat.le_of_ble_eq_true rfl) rfl (fun h => absurd h (by decide +kernel)) ?_
  have hw0 := hw
  unfold WFa at hw0
  refine ra_load rfl rfl rfl rfl ?_
  refine ra_load rfl rfl rfl rfl ?_
  refine ra_i2l rfl hx0 ?_
  refine ra_load rfl rfl rfl rfl ?_
  refine ra_i2l rfl hx1 ?_
  refine ra_cQPp (sp_211 hx0 hx1 hw) rfl (ct_211 rfl lk_8_103 (Or.inl rfl) sh_179 (Nat.le_of_ble_eq_true rfl)) (fun z2 hz2 hz2p => ?_)
  refine ra_ifne rfl rfl (ra_in01 hz2) (fun h3 => ?_) (fun h3 => ?_)
  · refine ra_load rfl rfl rfl rfl ?_
    refine ra_load rfl rfl rfl rfl ?_
    refine ra_getR rfl lk_8_7 (Nat.zero_le _) sh_179 rfl ?_
    refine ra_iconst rfl ?_
    refine ra_ialoadJ (j := 3) rfl sh_180 rfl (by decide) rfl (by decide) ?_
    have hr4 : ra_in (ra_g σ (180) 3) := (ra_in_g _ _ _)
    refine ra_irem rfl hx0 hr4 (by omega) ?_
    refine ra_ifeq rfl rfl (ra_in_tmod hx0 (by omega)) (fun h5 => ?_) (fun h5 => ?_)
    · refine ra_load rfl rfl rfl rfl ?_
      refine ra_load rfl rfl rfl rfl ?_
      refine ra_i2l rfl hx0 ?_
      refine ra_load rfl rfl rfl rfl ?_
      refine ra_i2l rfl hx1 ?_
      refine ra_iconst rfl ?_
      refine ra_cQPp (sp_213 hx0 hx1 (by first | omega | (unfold ra_in at *; omega))) rfl (ct_213 rfl lk_8_107 (Or.inl rfl) sh_179 (Nat.le_of_ble_eq_true rfl)) (fun z7 hz7 hz7p => ?_)
      refine ra_ifeq rfl rfl (ra_in01 hz7) (fun h8 => ?_) (fun h8 => ?_)
      · refine ra_load rfl rfl rfl rfl ?_
        refine ra_load rfl rfl rfl rfl ?_
        refine ra_i2l rfl hx0 ?_
        refine ra_load rfl rfl rfl rfl ?_
        refine ra_i2l rfl hx1 ?_
        refine ra_cQPp (sp_215 hx0 hx1 hw) rfl (ct_215 rfl lk_8_111 (Or.inl rfl) sh_179 (Nat.le_of_ble_eq_true rfl)) (fun z10 hz10 hz10p => ?_)
        refine ra_ifeq rfl rfl (ra_in01 hz10) (fun h11 => ?_) (fun h11 => ?_)
        · refine ra_iconst rfl ?_
          exact ra_ireturn rfl rfl ⟨⟨_, (by first | omega | (unfold ra_in at *; omega)), (fun _ => ⟨hz2p.mp (by omega), fun q => absurd (hz7p.mpr q) (by omega), hz10p.1 (by omega)⟩), rfl⟩, rfl⟩
        · refine ra_iconst rfl ?_
          refine ra_goto rfl rfl ?_
          exact ra_ireturn rfl rfl ⟨⟨_, (by first | omega | (unfold ra_in at *; omega)), (fun hq => absurd hq (by decide)), rfl⟩, rfl⟩
      · refine ra_iconst rfl ?_
        refine ra_goto rfl rfl ?_
        exact ra_ireturn rfl rfl ⟨⟨_, (by first | omega | (unfold ra_in at *; omega)), (fun hq => absurd hq (by decide)), rfl⟩, rfl⟩
    · refine ra_iconst rfl ?_
      exact ra_ireturn rfl rfl ⟨⟨_, (by first | omega | (unfold ra_in at *; omega)), (fun hq => absurd hq (by decide)), rfl⟩, rfl⟩
  · refine ra_iconst rfl ?_
    exact ra_ireturn rfl rfl ⟨⟨_, (by first | omega | (unfold ra_in at *; omega)), (fun hq => absurd hq (by decide)), rfl⟩, rfl⟩
theorem sp_217 {n : Nat} {f : Nat → Int32} {d : Nat} {x0 : Int} {σ : ra_V} (hx0 : ra_in x0) (hw : WFa σ) : ra_C (g_Gs n f) g_sh 0 (d + 4) 217 [.index (179), ra_I x0] σ (fun r s => (∃ z : Int, (z = 0 ∨ z = 1) ∧ (z = 1 → (US σ x0 1 ∧ ¬ TK σ x0 1 (-1) ∧ ¬ BT σ x0 1)) ∧ r = .inl (some (ra_I z))) ∧ s = σ) := by
  refine ra_enter (nn := 0) mt_217 rfl (Nat.le_of_ble_eq_true rfl) rfl (fun h => absurd h (by decide +kernel)) ?_
  have hw0 := hw
  unfold WFa at hw0
  refine ra_load rfl rfl rfl rfl ?_
  refine ra_load rfl rfl rfl rfl ?_
  refine ra_i2l rfl hx0 ?_
  refine ra_lconst1 rfl ?_
  refine ra_cQPp (sp_211 hx0 (by first | omega | (unfold ra_in at *; omega)) hw) rfl (ct_211 rfl lk_8_103 (Or.inl rfl) sh_179 (Nat.le_of_ble_eq_true rfl)) (fun z2 hz2 hz2p => ?_)
  refine ra_ifeq rfl rfl (ra_in01 hz2) (fun h3 => ?_) (fun h3 => ?_)
  · refine ra_iconst rfl ?_
    exact ra_ireturn rfl (ra_okB (Or.inl rfl)) ⟨⟨_, (Or.inl rfl), (fun hq => absurd hq (by decide)), rfl⟩, rfl⟩
  · refine ra_load rfl rfl rfl rfl ?_
    refine ra_load rfl rfl rfl rfl ?_
    refine ra_i2l rfl hx0 ?_
    refine ra_lconst1 rfl ?_
    refine ra_iconst rfl ?_
    refine ra_cQPp (sp_213 hx0 (by first | omega | (unfold ra_in at *; omega)) (by first | omega | (unfold ra_in at *; omega))) rfl (ct_213 rfl lk_8_107 (Or.inl rfl) sh_179 (Nat.le_of_ble_eq_true rfl)) (fun z5 hz5 hz5p => ?_)
    refine ra_ifne rfl rfl (ra_in01 hz5) (fun h6 => ?_) (fun h6 => ?_)
    · refine ra_iconst rfl ?_
      exact ra_ireturn rfl (ra_okB (Or.inl rfl)) ⟨⟨_, (Or.inl rfl), (fun hq => absurd hq (by decide)), rfl⟩, rfl⟩
    · refine ra_load rfl rfl rfl rfl ?_
      refine ra_load rfl rfl rfl rfl ?_
      refine ra_i2l rfl hx0 ?_
      refine ra_lconst1 rfl ?_
      refine ra_cQPp (sp_215 hx0 (by first | omega | (unfold ra_in at *; omega)) hw) rfl (ct_215 rfl lk_8_111 (Or.inl rfl) sh_179 (Nat.le_of_ble_eq_true rfl)) (fun z8 hz8 hz8p => ?_)
      refine ra_ifne rfl rfl (ra_in01 hz8) (fun h9 => ?_) (fun h9 => ?_)
      · refine ra_iconst rfl ?_
        exact ra_ireturn rfl (ra_okB (Or.inl rfl)) ⟨⟨_, (Or.inl rfl), (fun hq => absurd hq (by decide)), rfl⟩, rfl⟩
      · refine ra_iconst rfl ?_
        refine ra_goto rfl rfl ?_
        exact ra_ireturn rfl (ra_okB (Or.inr rfl)) ⟨⟨_, (Or.inr rfl), (fun _ => ⟨hz2p.mp (by omega), fun q => absurd (hz5p.mpr q) (by omega), hz8p.1 (by omega)⟩), rfl⟩, rfl⟩
theorem lp_203_4 {n : Nat} {f : Nat → Int32} {d : Nat}  {σ : ra_V} (hw : WF σ) : ∀ (nn : Nat) (v1 : Int) (v2 : Int) (hv1_0 : 0 ≤ v1) (hv1_1 : v1 ≤ v2) (hv1_2 : v1 < v2 → ∃ p, 0 ≤ p ∧ p < v2 ∧ wq σ p 0 = 0) (hv2_0 : 0 ≤ v2) (hv2_1 : v2 ≤ 8) (hm : ((8 - v2 : Int)).toNat < nn), ra_P (g_Gs n f) g_sh 0 (d + 1) g_m_X8_partsMany 4 [some (.index (179)), some (ra_I v1), some (ra_I v2)] [] σ (fun r s => (∃ z, ra_in z ∧ (0 ≤ z ∧ z ≤ 8 ∧ (z < 8 → ∃ p, 0 ≤ p ∧ p < 8 ∧ wq σ p 0 = 0)) ∧ r = .inl (some (ra_I z))) ∧ s = σ) := by
  intro nn
  induction nn with
  | zero => intro v1 v2 hv1_0 hv1_1 hv1_2 hv2_0 hv2_1 hm; exact absurd hm (Nat.not_lt_zero _)
  | succ nn ih =>
    intro v1 v2 hv1_0 hv1_1 hv1_2 hv2_0 hv2_1 hm
    refine ra_load rfl rfl rfl rfl ?_
    refine ra_bipush rfl (by decide) ?_
    refine ra_icge rfl rfl (by first | omega | (unfold ra_in at *; omega)) (by first | omega | (unfold ra_in at *; omega)) (fun h1 => ?_) (fun h1 => ?_)
    · refine ra_load rfl rfl rfl rfl ?_
      exact ra_ireturn rfl rfl ⟨⟨_, (by first | omega | (unfold ra_in at *; omega)), (by obtain rfl : v2 = 8 := (by omega); exact ⟨by omega, by omega, hv1_2⟩), rfl⟩, rfl⟩
    · refine ra_load rfl rfl rfl rfl ?_
      refine ra_load rfl rfl rfl rfl ?_
      refine ra_load rfl rfl rfl rfl ?_
      refine ra_iconst rfl ?_
      refine ra_cTp (sp_200 (by first | omega | (unfold ra_in at *; omega)) (by first | omega | (unfold ra_in at *; omega)) (by first | assumption | rfl | omega)) rfl (ct_200 rfl lk_8_67 (Or.inl rfl) sh_179 (Nat.le_of_ble_eq_true rfl)) ?_
      have hr3 : ra_in (wq σ v2 (0)) := (ra_in_wq _ _ _)
      refine ra_iadd rfl ?_
      refine ra_store (L' := [_, _, _]) rfl rfl rfl (Nat.le_of_ble_eq_true rfl) rfl ?_
      refine ra_iinc (L' := [_, _, _]) rfl rfl (Nat.le_of_ble_eq_true rfl) rfl ?_
      refine ra_goto rfl rfl ?_
      exact ra_weak (by repeat' constructor) (ih (v1 + (wq σ v2 (0))) (v2 + 1) (by have := WF_ex hw hv2_0 (by omega); omega) (by have := WF_ex hw hv2_0 (by omega); omega) ((WF_ex hw hv2_0 (by omega)).elim (fun e _ => ⟨v2, by omega, by omega, e⟩) (fun e q => (hv1_2 (by omega)).elim fun p a => ⟨p, a.1, by omega, a.2.2⟩)) (by first | omega | (unfold ra_in at *; omega)) (by first | omega | (unfold ra_in at *; omega)) (by first | omega | (unfold ra_in at *; omega)))
theorem sp_203 {n : Nat} {f : Nat → Int32} {d : Nat}  {σ : ra_V} (hw : WF σ) : ra_C (g_Gs n f) g_sh 0 (d + 2) 203 [.index (179)] σ (fun r s => (∃ z, ra_in z ∧ (0 ≤ z ∧ z ≤ 8 ∧ (z < 8 → ∃ p, 0 ≤ p ∧ p < 8 ∧ wq σ p 0 = 0)) ∧ r = .inl (some (ra_I z))) ∧ s = σ) := by
  refine ra_enter (nn := 2) mt_203 rfl (Nat.le_of_ble_eq_true rfl) rfl (fun h => absurd h (by decide +kernel)) ?_
  refine ra_iconst rfl ?_
  refine ra_store (L' := [_, _, _]) rfl rfl rfl (Nat.le_of_ble_eq_true rfl) rfl ?_
  refine ra_iconst rfl ?_
  refine ra_store (L' := [_, _, _]) rfl rfl rfl (Nat.le_of_ble_eq_true rfl) rfl ?_
  exact ra_weak (by repeat' constructor) (lp_203_4 hw _ (0) (0) (by first | omega | (unfold ra_in at *; omega)) (by first | omega | (unfold ra_in at *; omega)) (fun q => absurd q (by omega)) (by first | omega | (unfold ra_in at *; omega)) (by first | omega | (unfold ra_in at *; omega)) (Nat.lt_succ_self _))
theorem sp_208 {n : Nat} {f : Nat → Int32} {d : Nat} {x0 : Int} {x1 : Int} {σ : ra_V} (hx0 : ra_in x0) (hx1 : ra_in x1) (hp : -1 ≤ x0 ∧ x0 < 8) : ra_C (g_Gs n f) g_sh 0 (d + 2) 208 [.index (179), ra_I x0, ra_I x1] σ (fun r s => rI r ∧ s = σ) := by
  refine ra_enter (nn := 0) mt_208 rfl (Nat.le_of_ble_eq_true rfl) rfl (fun h => absurd h (by decide +kernel)) ?_
  refine ra_sipush rfl (by decide) ?_
  refine ra_load rfl rfl rfl rfl ?_
  refine ra_load rfl rfl rfl rfl ?_
  refine ra_bipush rfl (by decide) ?_
  refine ra_cTp (sp_200 hx0 (by first | omega | (unfold ra_in at *; omega)) (by first | assumption | rfl | omega)) rfl (ct_200 rfl lk_8_67 (Or.inl rfl) sh_179 (Nat.le_of_ble_eq_true rfl)) ?_
  refine ra_iconst rfl ?_
  refine ra_iadd rfl ?_
  refine ra_gen (fun z2 hz2 => ?_)
  refine ra_imul rfl ?_
  refine ra_gen (fun z3 hz3 => ?_)
  refine ra_load rfl rfl rfl rfl ?_
  refine ra_iadd rfl ?_
  refine ra_gen (fun z4 hz4 => ?_)
  exact ra_ireturn rfl rfl ⟨⟨_, hz4, rfl⟩, rfl⟩
end RB
end
