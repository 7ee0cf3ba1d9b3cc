/-! the class: what its methods do, told weakly (printed by wip/gen/cls.py) -/
section CW
theorem sp_140 {n : Nat} {f : Nat → Int32} {d : Nat} {x0 : Int} {x1 : Int} {x2 : Int} {x3 : Int} {σ : ra_V} (hx0 : ra_in x0) (hx1 : ra_in x1) (hx2 : ra_in x2) (hx3 : ra_in x3) (hci : CI σ) : ra_C (g_Gs n f) g_sh 0 (d + 7) 140 [.index (0), ra_I x0, ra_I x1, ra_I x2, ra_I x3] σ (fun r s => rX ["java/lang/IllegalArgumentException", "java/lang/IllegalStateException"] rI r ∧ Fr (0) (175) σ s ∧ CI s) := by
  refine ra_enter (nn := 0) mt_140 rfl (Nat.le_of_ble_eq_true rfl) rfl (fun _ => by omega) ?_
  refine ra_load rfl rfl rfl rfl ?_
  refine ra_load rfl rfl rfl rfl ?_
  refine ra_load rfl rfl rfl rfl ?_
  refine ra_load rfl rfl rfl rfl ?_
  refine ra_cXVp (sp_178 hx2 hx3 hx1) rfl (ct_178 rfl lk_7_251 (Or.inl rfl) sh_0 (Nat.le_of_ble_eq_true rfl)) rfl ?_ (fun E hE => ⟨Or.inr ⟨E, (show ∀ E ∈ (["java/lang/IllegalArgumentException"] : List String), E ∈ (["java/lang/IllegalArgumentException", "java/lang/IllegalStateException"] : List String) by decide) E hE, rfl⟩, ⟨Fr_rf, hci⟩⟩)
  refine ra_load rfl rfl rfl rfl ?_
  refine ra_getR rfl lk_7_10 (Nat.zero_le _) sh_0 rfl ?_
  refine ra_load rfl rfl rfl rfl ?_
  refine ra_load rfl rfl rfl rfl ?_
  refine ra_cIp (sp_16 isD_1 hx0 hx1) rfl (ct_16 rfl lk_7_248 (Or.inl rfl) (sh_D isD_1) (Nat.le_of_ble_eq_true rfl)) (fun z3 hz3 => ?_)
  refine ra_ifeq rfl rfl hz3 (fun h4 => ?_) (fun h4 => ?_)
  · refine ra_load rfl rfl rfl rfl ?_
    refine ra_cXVp (sp_180 ) rfl (ct_180 rfl lk_7_257 (Or.inl rfl) sh_0 (Nat.le_of_ble_eq_true rfl)) rfl ?_ (fun E hE => ⟨Or.inr ⟨E, (show ∀ E ∈ (["java/lang/IllegalStateException"] : List String), E ∈ (["java/lang/IllegalArgumentException", "java/lang/IllegalStateException"] : List String) by decide) E hE, rfl⟩, ⟨Fr_rf, hci⟩⟩)
    refine ra_load rfl rfl rfl rfl ?_
    refine ra_getR rfl lk_7_25 (Nat.zero_le _) sh_0 rfl ?_
    refine ra_load rfl rfl rfl rfl ?_
    refine ra_getR rfl lk_7_10 (Nat.zero_le _) sh_0 rfl ?_
    refine ra_cV (sp_62 isD_1 hci) rfl (ct_62 rfl lk_7_260 (Or.inl rfl) sh_40 (Nat.le_of_ble_eq_true rfl)) (fun s6 hs6 => ?_)
    obtain ⟨hf7, he8⟩ := hs6
    have hF9 := Fr_tr (lo := 0) (hi := 175) Fr_rf hf7 (by omega)
    have hci10 : CI s6 := he8
    refine ra_load rfl rfl rfl rfl ?_
    refine ra_getR rfl lk_7_10 (Nat.zero_le _) sh_0 rfl ?_
    refine ra_load rfl rfl rfl rfl ?_
    refine ra_load rfl rfl rfl rfl ?_
    refine ra_load rfl rfl rfl rfl ?_
    refine ra_load rfl rfl rfl rfl ?_
    refine ra_cI (sp_33 isD_1 hx0 hx1 hx2 hx3) rfl (ct_33 rfl lk_7_263 (Or.inl rfl) (sh_D isD_1) (Nat.le_of_ble_eq_true rfl)) (fun z12 s11  hz12 hs11 => ?_)
    have hF13 := Fr_tr (lo := 0) (hi := 175) hF9 hs11 (by omega)
    have hci14 : CI s11 := CI_fr hci10 hs11 (by omega)
    exact ra_ireturn rfl rfl ⟨Or.inl (⟨_, hz12, rfl⟩), ⟨hF13, hci14⟩⟩
  · exact ra_throw (E := "java/lang/IllegalArgumentException") rfl lk_7_128 (by decide +kernel) (fun _ => rfl) ⟨Or.inr ⟨_, by simp, rfl⟩, ⟨Fr_rf, hci⟩⟩
theorem sp_141 {n : Nat} {f : Nat → Int32} {d : Nat} {x0 : Int} {x1 : Int} {x2 : Int} {x3 : Int} {σ : ra_V} (hx0 : ra_in x0) (hx1 : ra_in x1) (hx2 : ra_in x2) (hx3 : ra_in x3) (hci : CI σ) : ra_C (g_Gs n f) g_sh 0 (d + 7) 141 [.index (0), ra_I x0, ra_I x1, ra_I x2, ra_I x3] σ (fun r s => rX ["java/lang/IllegalArgumentException", "java/lang/IllegalStateException"] rI r ∧ Fr (0) (175) σ s ∧ CI s) := by
  refine ra_enter (nn := 1) mt_141 rfl (Nat.le_of_ble_eq_true rfl) rfl (fun _ => by omega) ?_
  refine ra_load rfl rfl rfl rfl ?_
  refine ra_load rfl rfl rfl rfl ?_
  refine ra_load rfl rfl rfl rfl ?_
  refine ra_load rfl rfl rfl rfl ?_
  refine ra_cXVp (sp_178 hx1 hx2 hx0) rfl (ct_178 rfl lk_7_251 (Or.inl rfl) sh_0 (Nat.le_of_ble_eq_true rfl)) rfl ?_ (fun E hE => ⟨Or.inr ⟨E, (show ∀ E ∈ (["java/lang/IllegalArgumentException"] : List String), E ∈ (["java/lang/IllegalArgumentException", "java/lang/IllegalStateException"] : List String) by decide) E hE, rfl⟩, ⟨Fr_rf, hci⟩⟩)
  refine ra_load rfl rfl rfl rfl ?_
  refine ra_load rfl rfl rfl rfl ?_
  refine ra_cXVp (sp_179 hx3) rfl (ct_179 rfl lk_7_235 (Or.inl rfl) sh_0 (Nat.le_of_ble_eq_true rfl)) rfl ?_ (fun E hE => ⟨Or.inr ⟨E, (show ∀ E ∈ (["java/lang/IllegalArgumentException"] : List String), E ∈ (["java/lang/IllegalArgumentException", "java/lang/IllegalStateException"] : List String) by decide) E hE, rfl⟩, ⟨Fr_rf, hci⟩⟩)
  refine ra_load rfl rfl rfl rfl ?_
  refine ra_cXVp (sp_180 ) rfl (ct_180 rfl lk_7_257 (Or.inl rfl) sh_0 (Nat.le_of_ble_eq_true rfl)) rfl ?_ (fun E hE => ⟨Or.inr ⟨E, (show ∀ E ∈ (["java/lang/IllegalStateException"] : List String), E ∈ (["java/lang/IllegalArgumentException", "java/lang/IllegalStateException"] : List String) by decide) E hE, rfl⟩, ⟨Fr_rf, hci⟩⟩)
  refine ra_load rfl rfl rfl rfl ?_
  refine ra_cR (sp_175 ) rfl (ct_175 rfl lk_7_106 (Or.inl rfl) sh_0 (Nat.le_of_ble_eq_true rfl)) (fun s4 hs4 => ?_)
  have hF5 := Fr_tr (lo := 0) (hi := 175) Fr_rf hs4 (by omega)
  have hci6 : CI s4 := CI_fr hci hs4 (by omega)
  refine ra_load rfl rfl rfl rfl ?_
  refine ra_load rfl rfl rfl rfl ?_
  refine ra_cIp (sp_59 hx0 hx3) rfl (ct_59 rfl lk_7_238 (Or.inl rfl) sh_172 (Nat.le_of_ble_eq_true rfl)) (fun z8 hz8 => ?_)
  refine ra_store (L' := [_, _, _, _, _, _]) rfl rfl rfl (Nat.le_of_ble_eq_true rfl) rfl ?_
  refine ra_load rfl rfl rfl rfl ?_
  refine ra_ifge rfl rfl hz8 (fun h9 => ?_) (fun h9 => ?_)
  · refine ra_load rfl rfl rfl rfl ?_
    refine ra_getR rfl lk_7_25 (Nat.zero_le _) sh_0 rfl ?_
    refine ra_load rfl rfl rfl rfl ?_
    refine ra_getR rfl lk_7_10 (Nat.zero_le _) sh_0 rfl ?_
    refine ra_cV (sp_62 isD_1 hci6) rfl (ct_62 rfl lk_7_260 (Or.inl rfl) sh_40 (Nat.le_of_ble_eq_true rfl)) (fun s10 hs10 => ?_)
    obtain ⟨hf11, he12⟩ := hs10
    have hF13 := Fr_tr (lo := 0) (hi := 175) hF5 hf11 (by omega)
    have hci14 : CI s10 := he12
    refine ra_load rfl rfl rfl rfl ?_
    refine ra_getR rfl lk_7_10 (Nat.zero_le _) sh_0 rfl ?_
    refine ra_load rfl rfl rfl rfl ?_
    refine ra_load rfl rfl rfl rfl ?_
    refine ra_load rfl rfl rfl rfl ?_
    refine ra_load rfl rfl rfl rfl ?_
    refine ra_cI (sp_33 isD_1 hz8 hx0 hx1 hx2) rfl (ct_33 rfl lk_7_263 (Or.inl rfl) (sh_D isD_1) (Nat.le_of_ble_eq_true rfl)) (fun z16 s15  hz16 hs15 => ?_)
    have hF17 := Fr_tr (lo := 0) (hi := 175) hF13 hs15 (by omega)
    have hci18 : CI s15 := CI_fr hci14 hs15 (by omega)
    exact ra_ireturn rfl rfl ⟨Or.inl (⟨_, hz16, rfl⟩), ⟨hF17, hci18⟩⟩
  · exact ra_throw (E := "java/lang/IllegalStateException") rfl lk_7_267 (by decide +kernel) (fun _ => rfl) ⟨Or.inr ⟨_, by simp, rfl⟩, ⟨hF5, hci6⟩⟩
theorem sp_142 {n : Nat} {f : Nat → Int32} {d : Nat} {x0 : Int} {σ : ra_V} (hx0 : ra_in x0) (hci : CI σ) : ra_C (g_Gs n f) g_sh 0 (d + 7) 142 [.index (0), ra_I x0] σ (fun r s => rX ["java/lang/IllegalStateException", "java/util/NoSuchElementException"] rI r ∧ Fr (0) (175) σ s ∧ CI s) := by
  refine ra_enter (nn := 2) mt_142 rfl (Nat.le_of_ble_eq_true rfl) rfl (fun h => absurd h (by decide +kernel)) ?_
  refine ra_load rfl rfl rfl rfl ?_
  refine ra_load rfl rfl rfl rfl ?_
  refine ra_cXNp (sp_176 hx0) rfl (ct_176 rfl lk_7_135 (Or.inl rfl) sh_0 (Nat.le_of_ble_eq_true rfl)) rfl (fun j2 hj2 => ?_) (fun E hE => ⟨Or.inr ⟨E, (show ∀ E ∈ (["java/util/NoSuchElementException"] : List String), E ∈ (["java/lang/IllegalStateException", "java/util/NoSuchElementException"] : List String) by decide) E hE, rfl⟩, ⟨Fr_rf, hci⟩⟩)
  refine ra_store (L' := [_, _, _, _]) rfl rfl rfl (Nat.le_of_ble_eq_true rfl) rfl ?_
  refine ra_load rfl rfl rfl rfl ?_
  refine ra_load rfl rfl rfl rfl ?_
  refine ra_cXVp (sp_181 hj2) rfl (ct_181 rfl lk_7_272 (Or.inl rfl) sh_0 (Nat.le_of_ble_eq_true rfl)) rfl ?_ (fun E hE => ⟨Or.inr ⟨E, (show ∀ E ∈ (["java/lang/IllegalStateException"] : List String), E ∈ (["java/lang/IllegalStateException", "java/util/NoSuchElementException"] : List String) by decide) E hE, rfl⟩, ⟨Fr_rf, hci⟩⟩)
  refine ra_load rfl rfl rfl rfl ?_
  refine ra_getR rfl lk_7_25 (Nat.zero_le _) sh_0 rfl ?_
  refine ra_load rfl rfl rfl rfl ?_
  refine ra_getR rfl lk_7_10 (Nat.zero_le _) sh_0 rfl ?_
  refine ra_cV (sp_62 isD_1 hci) rfl (ct_62 rfl lk_7_260 (Or.inl rfl) sh_40 (Nat.le_of_ble_eq_true rfl)) (fun s4 hs4 => ?_)
  obtain ⟨hf5, he6⟩ := hs4
  have hF7 := Fr_tr (lo := 0) (hi := 175) Fr_rf hf5 (by omega)
  have hci8 : CI s4 := he6
  refine ra_load rfl rfl rfl rfl ?_
  refine ra_getI rfl lk_7_144 (Nat.zero_le _) (sh_P isD_1 hj2) rfl ?_
  refine ra_gen (fun z9 hz9 => ?_)
  refine ra_store (L' := [_, _, _, _]) rfl rfl rfl (Nat.le_of_ble_eq_true rfl) rfl ?_
  refine ra_load rfl rfl rfl rfl ?_
  refine ra_iconst rfl ?_
  refine ra_putI rfl lk_7_144 (Nat.zero_le _) (sh_P isD_1 hj2) rfl rfl ?_
  refine ra_new Fr_up (fun s10 hs10 => ?_)
  have hF11 := Fr_tr (lo := 0) (hi := 175) hF7 hs10 (by omega)
  have hci12 : CI s10 := CI_fr hci8 hs10 (by omega)
  refine ra_load rfl rfl rfl rfl ?_
  exact ra_ireturn rfl rfl ⟨Or.inl (⟨_, hz9, rfl⟩), ⟨hF11, hci12⟩⟩
theorem sp_143 {n : Nat} {f : Nat → Int32} {d : Nat} {x0 : Int} {x1 : Int} {σ : ra_V} (hx0 : ra_in x0) (hx1 : x1 = 0 ∨ x1 = 1) (hci : CI σ) : ra_C (g_Gs n f) g_sh 0 (d + 7) 143 [.index (0), ra_I x0, ra_I x1] σ (fun r s => rX ["java/util/NoSuchElementException"] rB r ∧ Fr (0) (175) σ s ∧ CI s) := by
  refine ra_enter (nn := 2) mt_143 rfl (Nat.le_of_ble_eq_true rfl) rfl (fun h => absurd h (by decide +kernel)) ?_
  refine ra_load rfl rfl rfl rfl ?_
  refine ra_load rfl rfl rfl rfl ?_
  refine ra_cXNp (sp_176 hx0) rfl (ct_176 rfl lk_7_135 (Or.inl rfl) sh_0 (Nat.le_of_ble_eq_true rfl)) rfl (fun j2 hj2 => ?_) (fun E hE => ⟨Or.inr ⟨E, (show ∀ E ∈ (["java/util/NoSuchElementException"] : List String), E ∈ (["java/util/NoSuchElementException"] : List String) by decide) E hE, rfl⟩, ⟨Fr_rf, hci⟩⟩)
  refine ra_store (L' := [_, _, _, _, _]) rfl rfl rfl (Nat.le_of_ble_eq_true rfl) rfl ?_
  refine ra_load rfl rfl rfl rfl ?_
  refine ra_getR rfl lk_7_25 (Nat.zero_le _) sh_0 rfl ?_
  refine ra_load rfl rfl rfl rfl ?_
  refine ra_getR rfl lk_7_10 (Nat.zero_le _) sh_0 rfl ?_
  refine ra_cV (sp_62 isD_1 hci) rfl (ct_62 rfl lk_7_260 (Or.inl rfl) sh_40 (Nat.le_of_ble_eq_true rfl)) (fun s3 hs3 => ?_)
  obtain ⟨hf4, he5⟩ := hs3
  have hF6 := Fr_tr (lo := 0) (hi := 175) Fr_rf hf4 (by omega)
  have hci7 : CI s3 := he5
  refine ra_load rfl rfl rfl rfl ?_
  refine ra_getBw rfl lk_7_153 (Nat.zero_le _) (sh_P isD_1 hj2) rfl (fun z8 hz8 => ?_)
  refine ra_store (L' := [_, _, _, _, _]) rfl rfl rfl (Nat.le_of_ble_eq_true rfl) rfl ?_
  refine ra_load rfl rfl rfl rfl ?_
  refine ra_load rfl rfl rfl rfl ?_
  refine ra_putB rfl lk_7_153 (Nat.zero_le _) (sh_P isD_1 hj2) rfl rfl hx1 ?_
  refine ra_new Fr_up (fun s9 hs9 => ?_)
  have hF10 := Fr_tr (lo := 0) (hi := 175) hF6 hs9 (by omega)
  have hci11 : CI s9 := CI_fr hci7 hs9 (by omega)
  refine ra_load rfl rfl rfl rfl ?_
  exact ra_ireturn rfl (ra_okB hz8) ⟨Or.inl (⟨_, hz8, rfl⟩), ⟨hF10, hci11⟩⟩
theorem sp_145 {n : Nat} {f : Nat → Int32} {d : Nat} {x0 : Int} {x1 : Int} {σ : ra_V} (hx0 : ra_in x0) (hx1 : ra_in x1) (hci : CI σ) : ra_C (g_Gs n f) g_sh 0 (d + 7) 145 [.index (0), ra_I x0, ra_I x1] σ (fun r s => rX ["java/lang/IllegalStateException", "java/util/NoSuchElementException"] rI r ∧ Fr (0) (175) σ s ∧ CI s) := by
  refine ra_enter (nn := 2) mt_145 rfl (Nat.le_of_ble_eq_true rfl) rfl (fun h => absurd h (by decide +kernel)) ?_
  refine ra_load rfl rfl rfl rfl ?_
  refine ra_load rfl rfl rfl rfl ?_
  refine ra_cXNp (sp_176 hx0) rfl (ct_176 rfl lk_7_135 (Or.inl rfl) sh_0 (Nat.le_of_ble_eq_true rfl)) rfl (fun j2 hj2 => ?_) (fun E hE => ⟨Or.inr ⟨E, (show ∀ E ∈ (["java/util/NoSuchElementException"] : List String), E ∈ (["java/lang/IllegalStateException", "java/util/NoSuchElementException"] : List String) by decide) E hE, rfl⟩, ⟨Fr_rf, hci⟩⟩)
  refine ra_store (L' := [_, _, _, _, _]) rfl rfl rfl (Nat.le_of_ble_eq_true rfl) rfl ?_
  refine ra_load rfl rfl rfl rfl ?_
  refine ra_load rfl rfl rfl rfl ?_
  refine ra_load rfl rfl rfl rfl ?_
  refine ra_cXVp (sp_182 hj2 hx1) rfl (ct_182 rfl lk_7_279 (Or.inl rfl) sh_0 (Nat.le_of_ble_eq_true rfl)) rfl ?_ (fun E hE => ⟨Or.inr ⟨E, (show ∀ E ∈ (["java/lang/IllegalStateException"] : List String), E ∈ (["java/lang/IllegalStateException", "java/util/NoSuchElementException"] : List String) by decide) E hE, rfl⟩, ⟨Fr_rf, hci⟩⟩)
  refine ra_load rfl rfl rfl rfl ?_
  refine ra_getR rfl lk_7_25 (Nat.zero_le _) sh_0 rfl ?_
  refine ra_load rfl rfl rfl rfl ?_
  refine ra_getR rfl lk_7_10 (Nat.zero_le _) sh_0 rfl ?_
  refine ra_cV (sp_62 isD_1 hci) rfl (ct_62 rfl lk_7_260 (Or.inl rfl) sh_40 (Nat.le_of_ble_eq_true rfl)) (fun s4 hs4 => ?_)
  obtain ⟨hf5, he6⟩ := hs4
  have hF7 := Fr_tr (lo := 0) (hi := 175) Fr_rf hf5 (by omega)
  have hci8 : CI s4 := he6
  refine ra_load rfl rfl rfl rfl ?_
  refine ra_getI rfl lk_7_144 (Nat.zero_le _) (sh_P isD_1 hj2) rfl ?_
  refine ra_gen (fun z9 hz9 => ?_)
  refine ra_store (L' := [_, _, _, _, _]) rfl rfl rfl (Nat.le_of_ble_eq_true rfl) rfl ?_
  refine ra_load rfl rfl rfl rfl ?_
  refine ra_getR rfl lk_7_10 (Nat.zero_le _) sh_0 rfl ?_
  refine ra_load rfl rfl rfl rfl ?_
  refine ra_load rfl rfl rfl rfl ?_
  refine ra_cV (sp_34 isD_1 hj2 hx1) rfl (ct_34 rfl lk_7_283 (Or.inl rfl) (sh_D isD_1) (Nat.le_of_ble_eq_true rfl)) (fun s10 hs10 => ?_)
  have hF11 := Fr_tr (lo := 0) (hi := 175) hF7 hs10 (by omega)
  have hci12 : CI s10 := CI_fr hci8 hs10 (by omega)
  refine ra_load rfl rfl rfl rfl ?_
  exact ra_ireturn rfl rfl ⟨Or.inl (⟨_, hz9, rfl⟩), ⟨hF11, hci12⟩⟩
theorem sp_146 {n : Nat} {f : Nat → Int32} {d : Nat} {x0 : Int} {σ : ra_V} (hx0 : ra_in x0) (hci : CI σ) : ra_C (g_Gs n f) g_sh 0 (d + 7) 146 [.index (0), ra_I x0] σ (fun r s => rX ["java/lang/IllegalStateException", "java/util/NoSuchElementException"] rI r ∧ Fr (0) (175) σ s ∧ CI s) := by
  refine ra_enter (nn := 2) mt_146 rfl (Nat.le_of_ble_eq_true rfl) rfl (fun h => absurd h (by decide +kernel)) ?_
  refine ra_load rfl rfl rfl rfl ?_
  refine ra_load rfl rfl rfl rfl ?_
  refine ra_cXNp (sp_176 hx0) rfl (ct_176 rfl lk_7_135 (Or.inl rfl) sh_0 (Nat.le_of_ble_eq_true rfl)) rfl (fun j2 hj2 => ?_) (fun E hE => ⟨Or.inr ⟨E, (show ∀ E ∈ (["java/util/NoSuchElementException"] : List String), E ∈ (["java/lang/IllegalStateException", "java/util/NoSuchElementException"] : List String) by decide) E hE, rfl⟩, ⟨Fr_rf, hci⟩⟩)
  refine ra_store (L' := [_, _, _, _]) rfl rfl rfl (Nat.le_of_ble_eq_true rfl) rfl ?_
  refine ra_load rfl rfl rfl rfl ?_
  refine ra_getI rfl lk_7_144 (Nat.zero_le _) (sh_P isD_1 hj2) rfl ?_
  refine ra_gen (fun z3 hz3 => ?_)
  refine ra_load rfl rfl rfl rfl ?_
  refine ra_getR rfl lk_7_10 (Nat.zero_le _) sh_0 rfl ?_
  refine ra_getI rfl lk_7_100 (Nat.zero_le _) (sh_D isD_1) rfl ?_
  refine ra_gen (fun z4 hz4 => ?_)
  refine ra_cIp (sp_186 hz3 hz4) rfl (ct_186 rfl lk_7_286 (Or.inl rfl) (Nat.le_of_ble_eq_true rfl)) (fun z6 hz6 => ?_)
  refine ra_store (L' := [_, _, _, _]) rfl rfl rfl (Nat.le_of_ble_eq_true rfl) rfl ?_
  refine ra_load rfl rfl rfl rfl ?_
  refine ra_load rfl rfl rfl rfl ?_
  refine ra_load rfl rfl rfl rfl ?_
  refine ra_cXVp (sp_182 hj2 hz6) rfl (ct_182 rfl lk_7_279 (Or.inl rfl) sh_0 (Nat.le_of_ble_eq_true rfl)) rfl ?_ (fun E hE => ⟨Or.inr ⟨E, (show ∀ E ∈ (["java/lang/IllegalStateException"] : List String), E ∈ (["java/lang/IllegalStateException", "java/util/NoSuchElementException"] : List String) by decide) E hE, rfl⟩, ⟨Fr_rf, hci⟩⟩)
  refine ra_load rfl rfl rfl rfl ?_
  refine ra_getR rfl lk_7_25 (Nat.zero_le _) sh_0 rfl ?_
  refine ra_load rfl rfl rfl rfl ?_
  refine ra_getR rfl lk_7_10 (Nat.zero_le _) sh_0 rfl ?_
  refine ra_cV (sp_62 isD_1 hci) rfl (ct_62 rfl lk_7_260 (Or.inl rfl) sh_40 (Nat.le_of_ble_eq_true rfl)) (fun s8 hs8 => ?_)
  obtain ⟨hf9, he10⟩ := hs8
  have hF11 := Fr_tr (lo := 0) (hi := 175) Fr_rf hf9 (by omega)
  have hci12 : CI s8 := he10
  refine ra_load rfl rfl rfl rfl ?_
  refine ra_getR rfl lk_7_10 (Nat.zero_le _) sh_0 rfl ?_
  refine ra_load rfl rfl rfl rfl ?_
  refine ra_load rfl rfl rfl rfl ?_
  refine ra_cV (sp_34 isD_1 hj2 hz6) rfl (ct_34 rfl lk_7_283 (Or.inl rfl) (sh_D isD_1) (Nat.le_of_ble_eq_true rfl)) (fun s13 hs13 => ?_)
  have hF14 := Fr_tr (lo := 0) (hi := 175) hF11 hs13 (by omega)
  have hci15 : CI s13 := CI_fr hci12 hs13 (by omega)
  refine ra_load rfl rfl rfl rfl ?_
  exact ra_ireturn rfl rfl ⟨Or.inl (⟨_, hz6, rfl⟩), ⟨hF14, hci15⟩⟩
theorem sp_147 {n : Nat} {f : Nat → Int32} {d : Nat} {x0 : Int} {x1 : Int} {σ : ra_V} (hx0 : ra_in x0) (hx1 : ra_in x1) (hci : CI σ) : ra_C (g_Gs n f) g_sh 0 (d + 7) 147 [.index (0), ra_I x0, ra_I x1] σ (fun r s => rX ["java/lang/IllegalArgumentException", "java/util/NoSuchElementException"] rI r ∧ Fr (0) (175) σ s ∧ CI s) := by
  refine ra_enter (nn := 2) mt_147 rfl (Nat.le_of_ble_eq_true rfl) rfl (fun _ => by omega) ?_
  refine ra_load rfl rfl rfl rfl ?_
  refine ra_load rfl rfl rfl rfl ?_
  refine ra_cXNp (sp_176 hx0) rfl (ct_176 rfl lk_7_135 (Or.inl rfl) sh_0 (Nat.le_of_ble_eq_true rfl)) rfl (fun j2 hj2 => ?_) (fun E hE => ⟨Or.inr ⟨E, (show ∀ E ∈ (["java/util/NoSuchElementException"] : List String), E ∈ (["java/lang/IllegalArgumentException", "java/util/NoSuchElementException"] : List String) by decide) E hE, rfl⟩, ⟨Fr_rf, hci⟩⟩)
  refine ra_store (L' := [_, _, _, _, _]) rfl rfl rfl (Nat.le_of_ble_eq_true rfl) rfl ?_
  refine ra_load rfl rfl rfl rfl ?_
  refine ra_iconst rfl ?_
  refine ra_iclt rfl rfl hx1 (by first | omega | (unfold ra_in at *; omega)) (fun h3 => ?_) (fun h3 => ?_)
  · exact ra_throw (E := "java/lang/IllegalArgumentException") rfl lk_7_128 (by decide +kernel) (fun _ => rfl) ⟨Or.inr ⟨_, by simp, rfl⟩, ⟨Fr_rf, hci⟩⟩
  · refine ra_load rfl rfl rfl rfl ?_
    refine ra_load rfl rfl rfl rfl ?_
    refine ra_getI rfl lk_7_144 (Nat.zero_le _) (sh_P isD_1 hj2) rfl ?_
    refine ra_gen (fun z4 hz4 => ?_)
    refine ra_icle rfl rfl hx1 hz4 (fun h5 => ?_) (fun h5 => ?_)
    · refine ra_load rfl rfl rfl rfl ?_
      refine ra_getR rfl lk_7_25 (Nat.zero_le _) sh_0 rfl ?_
      refine ra_load rfl rfl rfl rfl ?_
      refine ra_getR rfl lk_7_10 (Nat.zero_le _) sh_0 rfl ?_
      refine ra_cV (sp_62 isD_1 hci) rfl (ct_62 rfl lk_7_260 (Or.inl rfl) sh_40 (Nat.le_of_ble_eq_true rfl)) (fun s6 hs6 => ?_)
      obtain ⟨hf7, he8⟩ := hs6
      have hF9 := Fr_tr (lo := 0) (hi := 175) Fr_rf hf7 (by omega)
      have hci10 : CI s6 := he8
      refine ra_load rfl rfl rfl rfl ?_
      refine ra_getI rfl lk_7_147 (Nat.zero_le _) (sh_P isD_1 hj2) rfl ?_
      refine ra_gen (fun z11 hz11 => ?_)
      refine ra_store (L' := [_, _, _, _, _]) rfl rfl rfl (Nat.le_of_ble_eq_true rfl) rfl ?_
      refine ra_load rfl rfl rfl rfl ?_
      refine ra_load rfl rfl rfl rfl ?_
      refine ra_putI rfl lk_7_147 (Nat.zero_le _) (sh_P isD_1 hj2) rfl rfl ?_
      refine ra_new Fr_up (fun s12 hs12 => ?_)
      have hF13 := Fr_tr (lo := 0) (hi := 175) hF9 hs12 (by omega)
      have hci14 : CI s12 := CI_fr hci10 hs12 (by omega)
      refine ra_load rfl rfl rfl rfl ?_
      exact ra_ireturn rfl rfl ⟨Or.inl (⟨_, hz11, rfl⟩), ⟨hF13, hci14⟩⟩
    · exact ra_throw (E := "java/lang/IllegalArgumentException") rfl lk_7_128 (by decide +kernel) (fun _ => rfl) ⟨Or.inr ⟨_, by simp, rfl⟩, ⟨Fr_rf, hci⟩⟩
theorem sp_149 {n : Nat} {f : Nat → Int32} {d : Nat} {x0 : Int} {x1 : Int} {σ : ra_V} (hx0 : ra_in x0) (hx1 : ra_in x1) (hci : CI σ) : ra_C (g_Gs n f) g_sh 0 (d + 6) 149 [.index (0), ra_I x0, ra_I x1] σ (fun r s => rX ["java/lang/IllegalArgumentException"] rI r ∧ Fr (0) (175) σ s ∧ CI s) := by
  refine ra_enter (nn := 1) mt_149 rfl (Nat.le_of_ble_eq_true rfl) rfl (fun _ => by omega) ?_
  refine ra_load rfl rfl rfl rfl ?_
  refine ra_iconst rfl ?_
  refine ra_iceq rfl rfl hx0 (by first | omega | (unfold ra_in at *; omega)) (fun h1 => ?_) (fun h1 => ?_)
  · refine ra_load rfl rfl rfl rfl ?_
    refine ra_iconst rfl ?_
    refine ra_iclt rfl rfl hx1 (by first | omega | (unfold ra_in at *; omega)) (fun h2 => ?_) (fun h2 => ?_)
    · exact ra_throw (E := "java/lang/IllegalArgumentException") rfl lk_7_128 (by decide +kernel) (fun _ => rfl) ⟨Or.inr ⟨_, by simp, rfl⟩, ⟨Fr_rf, hci⟩⟩
    · refine ra_load rfl rfl rfl rfl ?_
      refine ra_load rfl rfl rfl rfl ?_
      refine ra_iconst rfl ?_
      refine ra_icne rfl rfl hx0 (by first | omega | (unfold ra_in at *; omega)) (fun h3 => ?_) (fun h3 => ?_)
      · refine ra_bipush rfl (by decide) ?_
        refine ra_icle rfl rfl hx1 (by first | omega | (unfold ra_in at *; omega)) (fun h4 => ?_) (fun h4 => ?_)
        · refine ra_load rfl rfl rfl rfl ?_
          refine ra_getR rfl lk_7_25 (Nat.zero_le _) sh_0 rfl ?_
          refine ra_load rfl rfl rfl rfl ?_
          refine ra_getR rfl lk_7_10 (Nat.zero_le _) sh_0 rfl ?_
          refine ra_cV (sp_62 isD_1 hci) rfl (ct_62 rfl lk_7_260 (Or.inl rfl) sh_40 (Nat.le_of_ble_eq_true rfl)) (fun s5 hs5 => ?_)
          obtain ⟨hf6, he7⟩ := hs5
          have hF8 := Fr_tr (lo := 0) (hi := 175) Fr_rf hf6 (by omega)
          have hci9 : CI s5 := he7
          refine ra_load rfl rfl rfl rfl ?_
          refine ra_iconst rfl ?_
          refine ra_icne rfl rfl hx0 (by first | omega | (unfold ra_in at *; omega)) (fun h10 => ?_) (fun h10 => ?_)
          · refine ra_load rfl rfl rfl rfl ?_
            refine ra_getR rfl lk_7_10 (Nat.zero_le _) sh_0 rfl ?_
            refine ra_getI rfl lk_7_103 (Nat.zero_le _) (sh_D isD_1) rfl ?_
            refine ra_gen (fun z11 hz11 => ?_)
            refine ra_store (L' := [_, _, _, _]) rfl rfl rfl (Nat.le_of_ble_eq_true rfl) rfl ?_
            refine ra_load rfl rfl rfl rfl ?_
            refine ra_iconst rfl ?_
            refine ra_icne rfl rfl hx0 (by first | omega | (unfold ra_in at *; omega)) (fun h12 => ?_) (fun h12 => ?_)
            · refine ra_load rfl rfl rfl rfl ?_
              refine ra_getR rfl lk_7_10 (Nat.zero_le _) sh_0 rfl ?_
              refine ra_load rfl rfl rfl rfl ?_
              refine ra_putI rfl lk_7_103 (Nat.zero_le _) (sh_D isD_1) rfl rfl ?_
              refine ra_new Fr_up (fun s13 hs13 => ?_)
              have hF14 := Fr_tr (lo := 0) (hi := 175) hF8 hs13 (by omega)
              have hci15 : CI s13 := CI_fr hci9 hs13 (by omega)
              refine ra_load rfl rfl rfl rfl ?_
              exact ra_ireturn rfl rfl ⟨Or.inl (⟨_, hz11, rfl⟩), ⟨hF14, hci15⟩⟩
            · refine ra_load rfl rfl rfl rfl ?_
              refine ra_getR rfl lk_7_10 (Nat.zero_le _) sh_0 rfl ?_
              refine ra_load rfl rfl rfl rfl ?_
              refine ra_putI rfl lk_7_100 (Nat.zero_le _) (sh_D isD_1) rfl rfl ?_
              refine ra_new Fr_up (fun s16 hs16 => ?_)
              have hF17 := Fr_tr (lo := 0) (hi := 175) hF8 hs16 (by omega)
              have hci18 : CI s16 := CI_fr hci9 hs16 (by omega)
              refine ra_goto rfl rfl ?_
              refine ra_load rfl rfl rfl rfl ?_
              exact ra_ireturn rfl rfl ⟨Or.inl (⟨_, hz11, rfl⟩), ⟨hF17, hci18⟩⟩
          · refine ra_load rfl rfl rfl rfl ?_
            refine ra_getR rfl lk_7_10 (Nat.zero_le _) sh_0 rfl ?_
            refine ra_getI rfl lk_7_100 (Nat.zero_le _) (sh_D isD_1) rfl ?_
            refine ra_gen (fun z19 hz19 => ?_)
            refine ra_goto rfl rfl ?_
            refine ra_store (L' := [_, _, _, _]) rfl rfl rfl (Nat.le_of_ble_eq_true rfl) rfl ?_
            refine ra_load rfl rfl rfl rfl ?_
            refine ra_iconst rfl ?_
            refine ra_icne rfl rfl hx0 (by first | omega | (unfold ra_in at *; omega)) (fun h20 => ?_) (fun h20 => ?_)
            · refine ra_load rfl rfl rfl rfl ?_
              refine ra_getR rfl lk_7_10 (Nat.zero_le _) sh_0 rfl ?_
              refine ra_load rfl rfl rfl rfl ?_
              refine ra_putI rfl lk_7_103 (Nat.zero_le _) (sh_D isD_1) rfl rfl ?_
              refine ra_new Fr_up (fun s21 hs21 => ?_)
              have hF22 := Fr_tr (lo := 0) (hi := 175) hF8 hs21 (by omega)
              have hci23 : CI s21 := CI_fr hci9 hs21 (by omega)
              refine ra_load rfl rfl rfl rfl ?_
              exact ra_ireturn rfl rfl ⟨Or.inl (⟨_, hz19, rfl⟩), ⟨hF22, hci23⟩⟩
            · refine ra_load rfl rfl rfl rfl ?_
              refine ra_getR rfl lk_7_10 (Nat.zero_le _) sh_0 rfl ?_
              refine ra_load rfl rfl rfl rfl ?_
              refine ra_putI rfl lk_7_100 (Nat.zero_le _) (sh_D isD_1) rfl rfl ?_
              refine ra_new Fr_up (fun s24 hs24 => ?_)
              have hF25 := Fr_tr (lo := 0) (hi := 175) hF8 hs24 (by omega)
              have hci26 : CI s24 := CI_fr hci9 hs24 (by omega)
              refine ra_goto rfl rfl ?_
              refine ra_load rfl rfl rfl rfl ?_
              exact ra_ireturn rfl rfl ⟨Or.inl (⟨_, hz19, rfl⟩), ⟨hF25, hci26⟩⟩
        · exact ra_throw (E := "java/lang/IllegalArgumentException") rfl lk_7_128 (by decide +kernel) (fun _ => rfl) ⟨Or.inr ⟨_, by simp, rfl⟩, ⟨Fr_rf, hci⟩⟩
      · refine ra_bipush rfl (by decide) ?_
        refine ra_goto rfl rfl ?_
        refine ra_icle rfl rfl hx1 (by first | omega | (unfold ra_in at *; omega)) (fun h27 => ?_) (fun h27 => ?_)
        · refine ra_load rfl rfl rfl rfl ?_
          refine ra_getR rfl lk_7_25 (Nat.zero_le _) sh_0 rfl ?_
          refine ra_load rfl rfl rfl rfl ?_
          refine ra_getR rfl lk_7_10 (Nat.zero_le _) sh_0 rfl ?_
          refine ra_cV (sp_62 isD_1 hci) rfl (ct_62 rfl lk_7_260 (Or.inl rfl) sh_40 (Nat.le_of_ble_eq_true rfl)) (fun s28 hs28 => ?_)
          obtain ⟨hf29, he30⟩ := hs28
          have hF31 := Fr_tr (lo := 0) (hi := 175) Fr_rf hf29 (by omega)
          have hci32 : CI s28 := he30
          refine ra_load rfl rfl rfl rfl ?_
          refine ra_iconst rfl ?_
          refine ra_icne rfl rfl hx0 (by first | omega | (unfold ra_in at *; omega)) (fun h33 => ?_) (fun h33 => ?_)
          · refine ra_load rfl rfl rfl rfl ?_
            refine ra_getR rfl lk_7_10 (Nat.zero_le _) sh_0 rfl ?_
            refine ra_getI rfl lk_7_103 (Nat.zero_le _) (sh_D isD_1) rfl ?_
            refine ra_gen (fun z34 hz34 => ?_)
            refine ra_store (L' := [_, _, _, _]) rfl rfl rfl (Nat.le_of_ble_eq_true rfl) rfl ?_
            refine ra_load rfl rfl rfl rfl ?_
            refine ra_iconst rfl ?_
            refine ra_icne rfl rfl hx0 (by first | omega | (unfold ra_in at *; omega)) (fun h35 => ?_) (fun h35 => ?_)
            · refine ra_load rfl rfl rfl rfl ?_
              refine ra_getR rfl lk_7_10 (Nat.zero_le _) sh_0 rfl ?_
              refine ra_load rfl rfl rfl rfl ?_
              refine ra_putI rfl lk_7_103 (Nat.zero_le _) (sh_D isD_1) rfl rfl ?_
              refine ra_new Fr_up (fun s36 hs36 => ?_)
              have hF37 := Fr_tr (lo := 0) (hi := 175) hF31 hs36 (by omega)
              have hci38 : CI s36 := CI_fr hci32 hs36 (by omega)
              refine ra_load rfl rfl rfl rfl ?_
              exact ra_ireturn rfl rfl ⟨Or.inl (⟨_, hz34, rfl⟩), ⟨hF37, hci38⟩⟩
            · refine ra_load rfl rfl rfl rfl ?_
              refine ra_getR rfl lk_7_10 (Nat.zero_le _) sh_0 rfl ?_
              refine ra_load rfl rfl rfl rfl ?_
              refine ra_putI rfl lk_7_100 (Nat.zero_le _) (sh_D isD_1) rfl rfl ?_
              refine ra_new Fr_up (fun s39 hs39 => ?_)
              have hF40 := Fr_tr (lo := 0) (hi := 175) hF31 hs39 (by omega)
              have hci41 : CI s39 := CI_fr hci32 hs39 (by omega)
              refine ra_goto rfl rfl ?_
              refine ra_load rfl rfl rfl rfl ?_
              exact ra_ireturn rfl rfl ⟨Or.inl (⟨_, hz34, rfl⟩), ⟨hF40, hci41⟩⟩
          · refine ra_load rfl rfl rfl rfl ?_
            refine ra_getR rfl lk_7_10 (Nat.zero_le _) sh_0 rfl ?_
            refine ra_getI rfl lk_7_100 (Nat.zero_le _) (sh_D isD_1) rfl ?_
            refine ra_gen (fun z42 hz42 => ?_)
            refine ra_goto rfl rfl ?_
            refine ra_store (L' := [_, _, _, _]) rfl rfl rfl (Nat.le_of_ble_eq_true rfl) rfl ?_
            refine ra_load rfl rfl rfl rfl ?_
            refine ra_iconst rfl ?_
            refine ra_icne rfl rfl hx0 (by first | omega | (unfold ra_in at *; omega)) (fun h43 => ?_) (fun h43 => ?_)
            · refine ra_load rfl rfl rfl rfl ?_
              refine ra_getR rfl lk_7_10 (Nat.zero_le _) sh_0 rfl ?_
              refine ra_load rfl rfl rfl rfl ?_
              refine ra_putI rfl lk_7_103 (Nat.zero_le _) (sh_D isD_1) rfl rfl ?_
              refine ra_new Fr_up (fun s44 hs44 => ?_)
              have hF45 := Fr_tr (lo := 0) (hi := 175) hF31 hs44 (by omega)
              have hci46 : CI s44 := CI_fr hci32 hs44 (by omega)
              refine ra_load rfl rfl rfl rfl ?_
              exact ra_ireturn rfl rfl ⟨Or.inl (⟨_, hz42, rfl⟩), ⟨hF45, hci46⟩⟩
            · refine ra_load rfl rfl rfl rfl ?_
              refine ra_getR rfl lk_7_10 (Nat.zero_le _) sh_0 rfl ?_
              refine ra_load rfl rfl rfl rfl ?_
              refine ra_putI rfl lk_7_100 (Nat.zero_le _) (sh_D isD_1) rfl rfl ?_
              refine ra_new Fr_up (fun s47 hs47 => ?_)
              have hF48 := Fr_tr (lo := 0) (hi := 175) hF31 hs47 (by omega)
              have hci49 : CI s47 := CI_fr hci32 hs47 (by omega)
              refine ra_goto rfl rfl ?_
              refine ra_load rfl rfl rfl rfl ?_
              exact ra_ireturn rfl rfl ⟨Or.inl (⟨_, hz42, rfl⟩), ⟨hF48, hci49⟩⟩
        · exact ra_throw (E := "java/lang/IllegalArgumentException") rfl lk_7_128 (by decide +kernel) (fun _ => rfl) ⟨Or.inr ⟨_, by simp, rfl⟩, ⟨Fr_rf, hci⟩⟩
  · refine ra_load rfl rfl rfl rfl ?_
    refine ra_iconst rfl ?_
    refine ra_iceq rfl rfl hx0 (by first | omega | (unfold ra_in at *; omega)) (fun h50 => ?_) (fun h50 => ?_)
    · refine ra_load rfl rfl rfl rfl ?_
      refine ra_iconst rfl ?_
      refine ra_iclt rfl rfl hx1 (by first | omega | (unfold ra_in at *; omega)) (fun h51 => ?_) (fun h51 => ?_)
      · exact ra_throw (E := "java/lang/IllegalArgumentException") rfl lk_7_128 (by decide +kernel) (fun _ => rfl) ⟨Or.inr ⟨_, by simp, rfl⟩, ⟨Fr_rf, hci⟩⟩
      · refine ra_load rfl rfl rfl rfl ?_
        refine ra_load rfl rfl rfl rfl ?_
        refine ra_iconst rfl ?_
        refine ra_icne rfl rfl hx0 (by first | omega | (unfold ra_in at *; omega)) (fun h52 => ?_) (fun h52 => ?_)
        · refine ra_bipush rfl (by decide) ?_
          refine ra_icle rfl rfl hx1 (by first | omega | (unfold ra_in at *; omega)) (fun h53 => ?_) (fun h53 => ?_)
          · refine ra_load rfl rfl rfl rfl ?_
            refine ra_getR rfl lk_7_25 (Nat.zero_le _) sh_0 rfl ?_
            refine ra_load rfl rfl rfl rfl ?_
            refine ra_getR rfl lk_7_10 (Nat.zero_le _) sh_0 rfl ?_
            refine ra_cV (sp_62 isD_1 hci) rfl (ct_62 rfl lk_7_260 (Or.inl rfl) sh_40 (Nat.le_of_ble_eq_true rfl)) (fun s54 hs54 => ?_)
            obtain ⟨hf55, he56⟩ := hs54
            have hF57 := Fr_tr (lo := 0) (hi := 175) Fr_rf hf55 (by omega)
            have hci58 : CI s54 := he56
            refine ra_load rfl rfl rfl rfl ?_
            refine ra_iconst rfl ?_
            refine ra_icne rfl rfl hx0 (by first | omega | (unfold ra_in at *; omega)) (fun h59 => ?_) (fun h59 => ?_)
            · refine ra_load rfl rfl rfl rfl ?_
              refine ra_getR rfl lk_7_10 (Nat.zero_le _) sh_0 rfl ?_
              refine ra_getI rfl lk_7_103 (Nat.zero_le _) (sh_D isD_1) rfl ?_
              refine ra_gen (fun z60 hz60 => ?_)
              refine ra_store (L' := [_, _, _, _]) rfl rfl rfl (Nat.le_of_ble_eq_true rfl) rfl ?_
              refine ra_load rfl rfl rfl rfl ?_
              refine ra_iconst rfl ?_
              refine ra_icne rfl rfl hx0 (by first | omega | (unfold ra_in at *; omega)) (fun h61 => ?_) (fun h61 => ?_)
              · refine ra_load rfl rfl rfl rfl ?_
                refine ra_getR rfl lk_7_10 (Nat.zero_le _) sh_0 rfl ?_
                refine ra_load rfl rfl rfl rfl ?_
                refine ra_putI rfl lk_7_103 (Nat.zero_le _) (sh_D isD_1) rfl rfl ?_
                refine ra_new Fr_up (fun s62 hs62 => ?_)
                have hF63 := Fr_tr (lo := 0) (hi := 175) hF57 hs62 (by omega)
                have hci64 : CI s62 := CI_fr hci58 hs62 (by omega)
                refine ra_load rfl rfl rfl rfl ?_
                exact ra_ireturn rfl rfl ⟨Or.inl (⟨_, hz60, rfl⟩), ⟨hF63, hci64⟩⟩
              · refine ra_load rfl rfl rfl rfl ?_
                refine ra_getR rfl lk_7_10 (Nat.zero_le _) sh_0 rfl ?_
                refine ra_load rfl rfl rfl rfl ?_
                refine ra_putI rfl lk_7_100 (Nat.zero_le _) (sh_D isD_1) rfl rfl ?_
                refine ra_new Fr_up (fun s65 hs65 => ?_)
                have hF66 := Fr_tr (lo := 0) (hi := 175) hF57 hs65 (by omega)
                have hci67 : CI s65 := CI_fr hci58 hs65 (by omega)
                refine ra_goto rfl rfl ?_
                refine ra_load rfl rfl rfl rfl ?_
                exact ra_ireturn rfl rfl ⟨Or.inl (⟨_, hz60, rfl⟩), ⟨hF66, hci67⟩⟩
            · refine ra_load rfl rfl rfl rfl ?_
              refine ra_getR rfl lk_7_10 (Nat.zero_le _) sh_0 rfl ?_
              refine ra_getI rfl lk_7_100 (Nat.zero_le _) (sh_D isD_1) rfl ?_
              refine ra_gen (fun z68 hz68 => ?_)
              refine ra_goto rfl rfl ?_
              refine ra_store (L' := [_, _, _, _]) rfl rfl rfl (Nat.le_of_ble_eq_true rfl) rfl ?_
              refine ra_load rfl rfl rfl rfl ?_
              refine ra_iconst rfl ?_
              refine ra_icne rfl rfl hx0 (by first | omega | (unfold ra_in at *; omega)) (fun h69 => ?_) (fun h69 => ?_)
              · refine ra_load rfl rfl rfl rfl ?_
                refine ra_getR rfl lk_7_10 (Nat.zero_le _) sh_0 rfl ?_
                refine ra_load rfl rfl rfl rfl ?_
                refine ra_putI rfl lk_7_103 (Nat.zero_le _) (sh_D isD_1) rfl rfl ?_
                refine ra_new Fr_up (fun s70 hs70 => ?_)
                have hF71 := Fr_tr (lo := 0) (hi := 175) hF57 hs70 (by omega)
                have hci72 : CI s70 := CI_fr hci58 hs70 (by omega)
                refine ra_load rfl rfl rfl rfl ?_
                exact ra_ireturn rfl rfl ⟨Or.inl (⟨_, hz68, rfl⟩), ⟨hF71, hci72⟩⟩
              · refine ra_load rfl rfl rfl rfl ?_
                refine ra_getR rfl lk_7_10 (Nat.zero_le _) sh_0 rfl ?_
                refine ra_load rfl rfl rfl rfl ?_
                refine ra_putI rfl lk_7_100 (Nat.zero_le _) (sh_D isD_1) rfl rfl ?_
                refine ra_new Fr_up (fun s73 hs73 => ?_)
                have hF74 := Fr_tr (lo := 0) (hi := 175) hF57 hs73 (by omega)
                have hci75 : CI s73 := CI_fr hci58 hs73 (by omega)
                refine ra_goto rfl rfl ?_
                refine ra_load rfl rfl rfl rfl ?_
                exact ra_ireturn rfl rfl ⟨Or.inl (⟨_, hz68, rfl⟩), ⟨hF74, hci75⟩⟩
          · exact ra_throw (E := "java/lang/IllegalArgumentException") rfl lk_7_128 (by decide +kernel) (fun _ => rfl) ⟨Or.inr ⟨_, by simp, rfl⟩, ⟨Fr_rf, hci⟩⟩
        · refine ra_bipush rfl (by decide) ?_
          refine ra_goto rfl rfl ?_
          refine ra_icle rfl rfl hx1 (by first | omega | (unfold ra_in at *; omega)) (fun h76 => ?_) (fun h76 => ?_)
          · refine ra_load rfl rfl rfl rfl ?_
            refine ra_getR rfl lk_7_25 (Nat.zero_le _) sh_0 rfl ?_
            refine ra_load rfl rfl rfl rfl ?_
            refine ra_getR rfl lk_7_10 (Nat.zero_le _) sh_0 rfl ?_
            refine ra_cV (sp_62 isD_1 hci) rfl (ct_62 rfl lk_7_260 (Or.inl rfl) sh_40 (Nat.le_of_ble_eq_true rfl)) (fun s77 hs77 => ?_)
            obtain ⟨hf78, he79⟩ := hs77
            have hF80 := Fr_tr (lo := 0) (hi := 175) Fr_rf hf78 (by omega)
            have hci81 : CI s77 := he79
            refine ra_load rfl rfl rfl rfl ?_
            refine ra_iconst rfl ?_
            refine ra_icne rfl rfl hx0 (by first | omega | (unfold ra_in at *; omega)) (fun h82 => ?_) (fun h82 => ?_)
            · refine ra_load rfl rfl rfl rfl ?_
              refine ra_getR rfl lk_7_10 (Nat.zero_le _) sh_0 rfl ?_
              refine ra_getI rfl lk_7_103 (Nat.zero_le _) (sh_D isD_1) rfl ?_
              refine ra_gen (fun z83 hz83 => ?_)
              refine ra_store (L' := [_, _, _, _]) rfl rfl rfl (Nat.le_of_ble_eq_true rfl) rfl ?_
              refine ra_load rfl rfl rfl rfl ?_
              refine ra_iconst rfl ?_
              refine ra_icne rfl rfl hx0 (by first | omega | (unfold ra_in at *; omega)) (fun h84 => ?_) (fun h84 => ?_)
              · refine ra_load rfl rfl rfl rfl ?_
                refine ra_getR rfl lk_7_10 (Nat.zero_le _) sh_0 rfl ?_
                refine ra_load rfl rfl rfl rfl ?_
                refine ra_putI rfl lk_7_103 (Nat.zero_le _) (sh_D isD_1) rfl rfl ?_
                refine ra_new Fr_up (fun s85 hs85 => ?_)
                have hF86 := Fr_tr (lo := 0) (hi := 175) hF80 hs85 (by omega)
                have hci87 : CI s85 := CI_fr hci81 hs85 (by omega)
                refine ra_load rfl rfl rfl rfl ?_
                exact ra_ireturn rfl rfl ⟨Or.inl (⟨_, hz83, rfl⟩), ⟨hF86, hci87⟩⟩
              · refine ra_load rfl rfl rfl rfl ?_
                refine ra_getR rfl lk_7_10 (Nat.zero_le _) sh_0 rfl ?_
                refine ra_load rfl rfl rfl rfl ?_
                refine ra_putI rfl lk_7_100 (Nat.zero_le _) (sh_D isD_1) rfl rfl ?_
                refine ra_new Fr_up (fun s88 hs88 => ?_)
                have hF89 := Fr_tr (lo := 0) (hi := 175) hF80 hs88 (by omega)
                have hci90 : CI s88 := CI_fr hci81 hs88 (by omega)
                refine ra_goto rfl rfl ?_
                refine ra_load rfl rfl rfl rfl ?_
                exact ra_ireturn rfl rfl ⟨Or.inl (⟨_, hz83, rfl⟩), ⟨hF89, hci90⟩⟩
            · refine ra_load rfl rfl rfl rfl ?_
              refine ra_getR rfl lk_7_10 (Nat.zero_le _) sh_0 rfl ?_
              refine ra_getI rfl lk_7_100 (Nat.zero_le _) (sh_D isD_1) rfl ?_
              refine ra_gen (fun z91 hz91 => ?_)
              refine ra_goto rfl rfl ?_
              refine ra_store (L' := [_, _, _, _]) rfl rfl rfl (Nat.le_of_ble_eq_true rfl) rfl ?_
              refine ra_load rfl rfl rfl rfl ?_
              refine ra_iconst rfl ?_
              refine ra_icne rfl rfl hx0 (by first | omega | (unfold ra_in at *; omega)) (fun h92 => ?_) (fun h92 => ?_)
              · refine ra_load rfl rfl rfl rfl ?_
                refine ra_getR rfl lk_7_10 (Nat.zero_le _) sh_0 rfl ?_
                refine ra_load rfl rfl rfl rfl ?_
                refine ra_putI rfl lk_7_103 (Nat.zero_le _) (sh_D isD_1) rfl rfl ?_
                refine ra_new Fr_up (fun s93 hs93 => ?_)
                have hF94 := Fr_tr (lo := 0) (hi := 175) hF80 hs93 (by omega)
                have hci95 : CI s93 := CI_fr hci81 hs93 (by omega)
                refine ra_load rfl rfl rfl rfl ?_
                exact ra_ireturn rfl rfl ⟨Or.inl (⟨_, hz91, rfl⟩), ⟨hF94, hci95⟩⟩
              · refine ra_load rfl rfl rfl rfl ?_
                refine ra_getR rfl lk_7_10 (Nat.zero_le _) sh_0 rfl ?_
                refine ra_load rfl rfl rfl rfl ?_
                refine ra_putI rfl lk_7_100 (Nat.zero_le _) (sh_D isD_1) rfl rfl ?_
                refine ra_new Fr_up (fun s96 hs96 => ?_)
                have hF97 := Fr_tr (lo := 0) (hi := 175) hF80 hs96 (by omega)
                have hci98 : CI s96 := CI_fr hci81 hs96 (by omega)
                refine ra_goto rfl rfl ?_
                refine ra_load rfl rfl rfl rfl ?_
                exact ra_ireturn rfl rfl ⟨Or.inl (⟨_, hz91, rfl⟩), ⟨hF97, hci98⟩⟩
          · exact ra_throw (E := "java/lang/IllegalArgumentException") rfl lk_7_128 (by decide +kernel) (fun _ => rfl) ⟨Or.inr ⟨_, by simp, rfl⟩, ⟨Fr_rf, hci⟩⟩
    · exact ra_throw (E := "java/lang/IllegalArgumentException") rfl lk_7_128 (by decide +kernel) (fun _ => rfl) ⟨Or.inr ⟨_, by simp, rfl⟩, ⟨Fr_rf, hci⟩⟩
theorem sp_150 {n : Nat} {f : Nat → Int32} {d : Nat} {x0 : Int} {x1 : Int} {σ : ra_V} (hx0 : ra_in x0) (hx1 : ra_in x1) (hci : CI σ) : ra_C (g_Gs n f) g_sh 0 (d + 7) 150 [.index (0), ra_I x0, ra_I x1] σ (fun r s => rX ["java/lang/IllegalArgumentException", "java/lang/IllegalStateException", "java/util/NoSuchElementException"] rI r ∧ Fr (0) (175) σ s ∧ CI s) := by
  refine ra_enter (nn := 2) mt_150 rfl (Nat.le_of_ble_eq_true rfl) rfl (fun _ => by omega) ?_
  refine ra_load rfl rfl rfl rfl ?_
  refine ra_load rfl rfl rfl rfl ?_
  refine ra_cXNp (sp_176 hx0) rfl (ct_176 rfl lk_7_135 (Or.inl rfl) sh_0 (Nat.le_of_ble_eq_true rfl)) rfl (fun j2 hj2 => ?_) (fun E hE => ⟨Or.inr ⟨E, (show ∀ E ∈ (["java/util/NoSuchElementException"] : List String), E ∈ (["java/lang/IllegalArgumentException", "java/lang/IllegalStateException", "java/util/NoSuchElementException"] : List String) by decide) E hE, rfl⟩, ⟨Fr_rf, hci⟩⟩)
  refine ra_store (L' := [_, _, _, _, _]) rfl rfl rfl (Nat.le_of_ble_eq_true rfl) rfl ?_
  refine ra_load rfl rfl rfl rfl ?_
  refine ra_load rfl rfl rfl rfl ?_
  refine ra_getI rfl lk_7_147 (Nat.zero_le _) (sh_P isD_1 hj2) rfl ?_
  refine ra_gen (fun z3 hz3 => ?_)
  refine ra_iclt rfl rfl hx1 hz3 (fun h4 => ?_) (fun h4 => ?_)
  · exact ra_throw (E := "java/lang/IllegalArgumentException") rfl lk_7_128 (by decide +kernel) (fun _ => rfl) ⟨Or.inr ⟨_, by simp, rfl⟩, ⟨Fr_rf, hci⟩⟩
  · refine ra_load rfl rfl rfl rfl ?_
    refine ra_load rfl rfl rfl rfl ?_
    refine ra_getI rfl lk_7_144 (Nat.zero_le _) (sh_P isD_1 hj2) rfl ?_
    refine ra_gen (fun z5 hz5 => ?_)
    refine ra_iclt rfl rfl hx1 hz5 (fun h6 => ?_) (fun h6 => ?_)
    · refine ra_load rfl rfl rfl rfl ?_
      refine ra_load rfl rfl rfl rfl ?_
      refine ra_cXVp (sp_181 hj2) rfl (ct_181 rfl lk_7_272 (Or.inl rfl) sh_0 (Nat.le_of_ble_eq_true rfl)) rfl ?_ (fun E hE => ⟨Or.inr ⟨E, (show ∀ E ∈ (["java/lang/IllegalStateException"] : List String), E ∈ (["java/lang/IllegalArgumentException", "java/lang/IllegalStateException", "java/util/NoSuchElementException"] : List String) by decide) E hE, rfl⟩, ⟨Fr_rf, hci⟩⟩)
      refine ra_load rfl rfl rfl rfl ?_
      refine ra_getR rfl lk_7_10 (Nat.zero_le _) sh_0 rfl ?_
      refine ra_load rfl rfl rfl rfl ?_
      refine ra_getI rfl lk_7_139 (Nat.zero_le _) (sh_P isD_1 hj2) rfl ?_
      refine ra_gen (fun z8 hz8 => ?_)
      refine ra_load rfl rfl rfl rfl ?_
      refine ra_iadd rfl ?_
      refine ra_gen (fun z9 hz9 => ?_)
      refine ra_cBp (sp_11 isD_1 hz9) rfl (ct_11 rfl lk_7_298 (Or.inl rfl) (sh_D isD_1) (Nat.le_of_ble_eq_true rfl)) (fun z11 hz11 => ?_)
      refine ra_ifne rfl rfl (ra_in01 hz11) (fun h12 => ?_) (fun h12 => ?_)
      · refine ra_load rfl rfl rfl rfl ?_
        refine ra_cXVp (sp_180 ) rfl (ct_180 rfl lk_7_257 (Or.inl rfl) sh_0 (Nat.le_of_ble_eq_true rfl)) rfl ?_ (fun E hE => ⟨Or.inr ⟨E, (show ∀ E ∈ (["java/lang/IllegalStateException"] : List String), E ∈ (["java/lang/IllegalArgumentException", "java/lang/IllegalStateException", "java/util/NoSuchElementException"] : List String) by decide) E hE, rfl⟩, ⟨Fr_rf, hci⟩⟩)
        refine ra_load rfl rfl rfl rfl ?_
        refine ra_getR rfl lk_7_25 (Nat.zero_le _) sh_0 rfl ?_
        refine ra_load rfl rfl rfl rfl ?_
        refine ra_getR rfl lk_7_10 (Nat.zero_le _) sh_0 rfl ?_
        refine ra_cV (sp_62 isD_1 hci) rfl (ct_62 rfl lk_7_260 (Or.inl rfl) sh_40 (Nat.le_of_ble_eq_true rfl)) (fun s14 hs14 => ?_)
        obtain ⟨hf15, he16⟩ := hs14
        have hF17 := Fr_tr (lo := 0) (hi := 175) Fr_rf hf15 (by omega)
        have hci18 : CI s14 := he16
        refine ra_load rfl rfl rfl rfl ?_
        refine ra_getI rfl lk_7_144 (Nat.zero_le _) (sh_P isD_1 hj2) rfl ?_
        refine ra_gen (fun z19 hz19 => ?_)
        refine ra_load rfl rfl rfl rfl ?_
        refine ra_isub rfl ?_
        refine ra_gen (fun z20 hz20 => ?_)
        refine ra_store (L' := [_, _, _, _, _]) rfl rfl rfl (Nat.le_of_ble_eq_true rfl) rfl ?_
        refine ra_load rfl rfl rfl rfl ?_
        refine ra_load rfl rfl rfl rfl ?_
        refine ra_putI rfl lk_7_144 (Nat.zero_le _) (sh_P isD_1 hj2) rfl rfl ?_
        refine ra_new Fr_up (fun s21 hs21 => ?_)
        have hF22 := Fr_tr (lo := 0) (hi := 175) hF17 hs21 (by omega)
        have hci23 : CI s21 := CI_fr hci18 hs21 (by omega)
        refine ra_load rfl rfl rfl rfl ?_
        refine ra_getR rfl lk_7_10 (Nat.zero_le _) sh_0 rfl ?_
        refine ra_load rfl rfl rfl rfl ?_
        refine ra_getI rfl lk_7_139 (Nat.zero_le _) (sh_P isD_1 hj2) rfl ?_
        refine ra_gen (fun z24 hz24 => ?_)
        refine ra_load rfl rfl rfl rfl ?_
        refine ra_iadd rfl ?_
        refine ra_gen (fun z25 hz25 => ?_)
        refine ra_load rfl rfl rfl rfl ?_
        refine ra_load rfl rfl rfl rfl ?_
        refine ra_getI rfl lk_7_150 (Nat.zero_le _) (sh_P isD_1 hj2) rfl ?_
        refine ra_gen (fun z26 hz26 => ?_)
        refine ra_iconst rfl ?_
        refine ra_cI (sp_33 isD_1 hz25 hz20 hz26 (by first | omega | (unfold ra_in at *; omega))) rfl (ct_33 rfl lk_7_263 (Or.inl rfl) (sh_D isD_1) (Nat.le_of_ble_eq_true rfl)) (fun z28 s27  hz28 hs27 => ?_)
        have hF29 := Fr_tr (lo := 0) (hi := 175) hF22 hs27 (by omega)
        have hci30 : CI s27 := CI_fr hci23 hs27 (by omega)
        exact ra_ireturn rfl rfl ⟨Or.inl (⟨_, hz28, rfl⟩), ⟨hF29, hci30⟩⟩
      · exact ra_throw (E := "java/lang/IllegalStateException") rfl lk_7_267 (by decide +kernel) (fun _ => rfl) ⟨Or.inr ⟨_, by simp, rfl⟩, ⟨Fr_rf, hci⟩⟩
    · exact ra_throw (E := "java/lang/IllegalArgumentException") rfl lk_7_128 (by decide +kernel) (fun _ => rfl) ⟨Or.inr ⟨_, by simp, rfl⟩, ⟨Fr_rf, hci⟩⟩
theorem sp_151 {n : Nat} {f : Nat → Int32} {d : Nat} {x0 : Int} {σ : ra_V} (hx0 : ra_in x0) (hci : CI σ) : ra_C (g_Gs n f) g_sh 0 (d + 7) 151 [.index (0), ra_I x0] σ (fun r s => rX ["java/lang/IllegalStateException", "java/util/NoSuchElementException"] rI r ∧ Fr (0) (175) σ s ∧ CI s) := by
  refine ra_enter (nn := 3) mt_151 rfl (Nat.le_of_ble_eq_true rfl) rfl (fun _ => by omega) ?_
  refine ra_load rfl rfl rfl rfl ?_
  refine ra_load rfl rfl rfl rfl ?_
  refine ra_cXNp (sp_176 hx0) rfl (ct_176 rfl lk_7_135 (Or.inl rfl) sh_0 (Nat.le_of_ble_eq_true rfl)) rfl (fun j2 hj2 => ?_) (fun E hE => ⟨Or.inr ⟨E, (show ∀ E ∈ (["java/util/NoSuchElementException"] : List String), E ∈ (["java/lang/IllegalStateException", "java/util/NoSuchElementException"] : List String) by decide) E hE, rfl⟩, ⟨Fr_rf, hci⟩⟩)
  refine ra_store (L' := [_, _, _, _, _]) rfl rfl rfl (Nat.le_of_ble_eq_true rfl) rfl ?_
  refine ra_load rfl rfl rfl rfl ?_
  refine ra_getR rfl lk_7_10 (Nat.zero_le _) sh_0 rfl ?_
  refine ra_load rfl rfl rfl rfl ?_
  refine ra_getI rfl lk_7_139 (Nat.zero_le _) (sh_P isD_1 hj2) rfl ?_
  refine ra_gen (fun z3 hz3 => ?_)
  refine ra_cPp (sp_6 isD_1 hz3) rfl (ct_6 rfl lk_7_187 (Or.inl rfl) (sh_D isD_1) (Nat.le_of_ble_eq_true rfl)) ?_ (fun j5 hj5 => ?_)
  · refine ra_store (L' := [_, _, _, _, _]) rfl rfl rfl (Nat.le_of_ble_eq_true rfl) rfl ?_
    refine ra_load rfl rfl rfl rfl ?_
    refine ra_nullT rfl rfl ?_
    exact ra_throw (E := "java/lang/IllegalStateException") rfl lk_7_267 (by decide +kernel) (fun _ => rfl) ⟨Or.inr ⟨_, by simp, rfl⟩, ⟨Fr_rf, hci⟩⟩
  · refine ra_store (L' := [_, _, _, _, _]) rfl rfl rfl (Nat.le_of_ble_eq_true rfl) rfl ?_
    refine ra_load rfl rfl rfl rfl ?_
    refine ra_nullF rfl rfl ?_
    refine ra_load rfl rfl rfl rfl ?_
    refine ra_getI rfl lk_7_139 (Nat.zero_le _) (sh_P isD_1 hj5) rfl ?_
    refine ra_gen (fun z6 hz6 => ?_)
    refine ra_load rfl rfl rfl rfl ?_
    refine ra_cIp (sp_93 isD_1 hj2) rfl (ct_93 rfl lk_7_303 (Or.inl rfl) (sh_P isD_1 hj2) (Nat.le_of_ble_eq_true rfl)) (fun z8 hz8 => ?_)
    refine ra_iceq rfl rfl hz6 hz8 (fun h9 => ?_) (fun h9 => ?_)
    · refine ra_load rfl rfl rfl rfl ?_
      refine ra_getI rfl lk_7_150 (Nat.zero_le _) (sh_P isD_1 hj5) rfl ?_
      refine ra_gen (fun z10 hz10 => ?_)
      refine ra_load rfl rfl rfl rfl ?_
      refine ra_getI rfl lk_7_150 (Nat.zero_le _) (sh_P isD_1 hj2) rfl ?_
      refine ra_gen (fun z11 hz11 => ?_)
      refine ra_iceq rfl rfl hz10 hz11 (fun h12 => ?_) (fun h12 => ?_)
      · refine ra_load rfl rfl rfl rfl ?_
        refine ra_load rfl rfl rfl rfl ?_
        refine ra_cXVp (sp_181 hj2) rfl (ct_181 rfl lk_7_272 (Or.inl rfl) sh_0 (Nat.le_of_ble_eq_true rfl)) rfl ?_ (fun E hE => ⟨Or.inr ⟨E, (show ∀ E ∈ (["java/lang/IllegalStateException"] : List String), E ∈ (["java/lang/IllegalStateException", "java/util/NoSuchElementException"] : List String) by decide) E hE, rfl⟩, ⟨Fr_rf, hci⟩⟩)
        refine ra_load rfl rfl rfl rfl ?_
        refine ra_load rfl rfl rfl rfl ?_
        refine ra_cXVp (sp_181 hj5) rfl (ct_181 rfl lk_7_272 (Or.inl rfl) sh_0 (Nat.le_of_ble_eq_true rfl)) rfl ?_ (fun E hE => ⟨Or.inr ⟨E, (show ∀ E ∈ (["java/lang/IllegalStateException"] : List String), E ∈ (["java/lang/IllegalStateException", "java/util/NoSuchElementException"] : List String) by decide) E hE, rfl⟩, ⟨Fr_rf, hci⟩⟩)
        refine ra_load rfl rfl rfl rfl ?_
        refine ra_getR rfl lk_7_25 (Nat.zero_le _) sh_0 rfl ?_
        refine ra_load rfl rfl rfl rfl ?_
        refine ra_getR rfl lk_7_10 (Nat.zero_le _) sh_0 rfl ?_
        refine ra_cV (sp_62 isD_1 hci) rfl (ct_62 rfl lk_7_260 (Or.inl rfl) sh_40 (Nat.le_of_ble_eq_true rfl)) (fun s15 hs15 => ?_)
        obtain ⟨hf16, he17⟩ := hs15
        have hF18 := Fr_tr (lo := 0) (hi := 175) Fr_rf hf16 (by omega)
        have hci19 : CI s15 := he17
        refine ra_load rfl rfl rfl rfl ?_
        refine ra_getI rfl lk_7_144 (Nat.zero_le _) (sh_P isD_1 hj2) rfl ?_
        refine ra_gen (fun z20 hz20 => ?_)
        refine ra_load rfl rfl rfl rfl ?_
        refine ra_getI rfl lk_7_144 (Nat.zero_le _) (sh_P isD_1 hj5) rfl ?_
        refine ra_gen (fun z21 hz21 => ?_)
        refine ra_iadd rfl ?_
        refine ra_gen (fun z22 hz22 => ?_)
        refine ra_store (L' := [_, _, _, _, _]) rfl rfl rfl (Nat.le_of_ble_eq_true rfl) rfl ?_
        refine ra_load rfl rfl rfl rfl ?_
        refine ra_iconst rfl ?_
        refine ra_putI rfl lk_7_144 (Nat.zero_le _) (sh_P isD_1 hj5) rfl rfl ?_
        refine ra_new Fr_up (fun s23 hs23 => ?_)
        have hF24 := Fr_tr (lo := 0) (hi := 175) hF18 hs23 (by omega)
        have hci25 : CI s23 := CI_fr hci19 hs23 (by omega)
        refine ra_load rfl rfl rfl rfl ?_
        refine ra_getR rfl lk_7_10 (Nat.zero_le _) sh_0 rfl ?_
        refine ra_load rfl rfl rfl rfl ?_
        refine ra_load rfl rfl rfl rfl ?_
        refine ra_cV (sp_34 isD_1 hj2 hz22) rfl (ct_34 rfl lk_7_283 (Or.inl rfl) (sh_D isD_1) (Nat.le_of_ble_eq_true rfl)) (fun s26 hs26 => ?_)
        have hF27 := Fr_tr (lo := 0) (hi := 175) hF24 hs26 (by omega)
        have hci28 : CI s26 := CI_fr hci25 hs26 (by omega)
        refine ra_load rfl rfl rfl rfl ?_
        refine ra_getK rfl lk_7_190 (Nat.zero_le _) (sh_P isD_1 hj5) rfl ?_
        exact ra_ireturn rfl rfl ⟨Or.inl (⟨_, (by first | omega | (unfold ra_in at *; omega)), rfl⟩), ⟨hF27, hci28⟩⟩
      · exact ra_throw (E := "java/lang/IllegalStateException") rfl lk_7_267 (by decide +kernel) (fun _ => rfl) ⟨Or.inr ⟨_, by simp, rfl⟩, ⟨Fr_rf, hci⟩⟩
    · exact ra_throw (E := "java/lang/IllegalStateException") rfl lk_7_267 (by decide +kernel) (fun _ => rfl) ⟨Or.inr ⟨_, by simp, rfl⟩, ⟨Fr_rf, hci⟩⟩
theorem lp_152_27 {n : Nat} {f : Nat → Int32} {d : Nat}  {σ : ra_V} (hci : CI σ) : ∀ (nn : Nat) (v1 : Int) (v4 : Int) (s : ra_V) (hv1 : ra_in v1) (hv4_0 : 0 ≤ v4) (hv4_1 : v4 ≤ 8) (hF : Fr (0) (175) σ s) (hcs : CI s) (hm : ((8 - v4 : Int)).toNat < nn), ra_P (g_Gs n f) g_sh 0 (d + 3) g_m_X7_shrinkAll 27 [some (.index (0)), some (ra_I v1), some (.index (1 + 2)), some (ra_I ((8 : Nat) : Int)), some (ra_I v4), none] [] s (fun r s => rI r ∧ Fr (0) (175) σ s ∧ CI s) := by
  intro nn
  induction nn with
  | zero => intro v1 v4 s hv1 hv4_0 hv4_1 hF hcs hm; exact absurd hm (Nat.not_lt_zero _)
  | succ nn ih =>
    intro v1 v4 s hv1 hv4_0 hv4_1 hF hcs hm
    refine ra_load rfl rfl rfl rfl ?_
    refine ra_load rfl rfl rfl rfl ?_
    refine ra_icge rfl rfl (by first | omega | (unfold ra_in at *; omega)) (by first | omega | (unfold ra_in at *; omega)) (fun h6 => ?_) (fun h6 => ?_)
    · refine ra_load rfl rfl rfl rfl ?_
      exact ra_ireturn rfl rfl ⟨⟨_, hv1, rfl⟩, ⟨hF, hcs⟩⟩
    · refine ra_load rfl rfl rfl rfl ?_
      refine ra_load rfl rfl rfl rfl ?_
      refine ra_aaload rfl (sh_D2 isD_1) rfl (by decide) (by first | omega | (unfold ra_in at *; omega)) (by first | omega | (unfold ra_in at *; omega)) (sh_pt (by first | omega | (unfold ra_in at *; omega)) (by first | omega | (unfold ra_in at *; omega))) rfl ?_
      have hi7 : v4.toNat < 8 := (by first | omega | (unfold ra_in at *; omega))
      refine ra_store (L' := [_, _, _, _, _, _]) rfl rfl rfl (Nat.le_of_ble_eq_true rfl) rfl ?_
      refine ra_load rfl rfl rfl rfl ?_
      refine ra_getR rfl lk_7_10 (Nat.zero_le _) sh_0 rfl ?_
      refine ra_load rfl rfl rfl rfl ?_
      refine ra_cBp (sp_8 isD_1 hi7) rfl (ct_8 rfl lk_7_207 (Or.inl rfl) (sh_D isD_1) (Nat.le_of_ble_eq_true rfl)) (fun z9 hz9 => ?_)
      refine ra_ifeq rfl rfl (ra_in01 hz9) (fun h10 => ?_) (fun h10 => ?_)
      · refine ra_iinc (L' := [_, _, _, _, _, _]) rfl rfl (Nat.le_of_ble_eq_true rfl) rfl ?_
        refine ra_goto rfl rfl ?_
        exact ra_weak (by repeat' constructor) (ih v1 (v4 + 1) s hv1 (by first | omega | (unfold ra_in at *; omega)) (by first | omega | (unfold ra_in at *; omega)) hF hcs (by first | omega | (unfold ra_in at *; omega)))
      · refine ra_load rfl rfl rfl rfl ?_
        refine ra_load rfl rfl rfl rfl ?_
        refine ra_getI rfl lk_7_144 (Nat.zero_le _) (sh_P isD_1 hi7) rfl ?_
        refine ra_gen (fun z11 hz11 => ?_)
        refine ra_load rfl rfl rfl rfl ?_
        refine ra_getI rfl lk_7_147 (Nat.zero_le _) (sh_P isD_1 hi7) rfl ?_
        refine ra_gen (fun z12 hz12 => ?_)
        refine ra_isub rfl ?_
        refine ra_gen (fun z13 hz13 => ?_)
        refine ra_iadd rfl ?_
        refine ra_gen (fun z14 hz14 => ?_)
        refine ra_store (L' := [_, _, _, _, _, _]) rfl rfl rfl (Nat.le_of_ble_eq_true rfl) rfl ?_
        refine ra_load rfl rfl rfl rfl ?_
        refine ra_load rfl rfl rfl rfl ?_
        refine ra_getI rfl lk_7_147 (Nat.zero_le _) (sh_P isD_1 hi7) rfl ?_
        refine ra_gen (fun z15 hz15 => ?_)
        refine ra_putI rfl lk_7_144 (Nat.zero_le _) (sh_P isD_1 hi7) rfl rfl ?_
        refine ra_new Fr_up (fun s16 hs16 => ?_)
        have hF17 := Fr_tr (lo := 0) (hi := 175) hF hs16 (by omega)
        have hci18 : CI s16 := CI_fr hcs hs16 (by omega)
        refine ra_iinc (L' := [_, _, _, _, _, _]) rfl rfl (Nat.le_of_ble_eq_true rfl) rfl ?_
        refine ra_goto rfl rfl ?_
        exact ra_weak (by repeat' constructor) (ih z14 (v4 + 1) s16 hz14 (by first | omega | (unfold ra_in at *; omega)) (by first | omega | (unfold ra_in at *; omega)) hF17 hci18 (by first | omega | (unfold ra_in at *; omega)))
theorem sp_152 {n : Nat} {f : Nat → Int32} {d : Nat}  {σ : ra_V} (hci : CI σ) : ra_C (g_Gs n f) g_sh 0 (d + 4) 152 [.index (0)] σ (fun r s => rI r ∧ Fr (0) (175) σ s ∧ CI s) := by
  refine ra_enter (nn := 5) mt_152 rfl (Nat.le_of_ble_eq_true rfl) rfl (fun h => absurd h (by decide +kernel)) ?_
  refine ra_load rfl rfl rfl rfl ?_
  refine ra_getR rfl lk_7_25 (Nat.zero_le _) sh_0 rfl ?_
  refine ra_load rfl rfl rfl rfl ?_
  refine ra_getR rfl lk_7_10 (Nat.zero_le _) sh_0 rfl ?_
  refine ra_cV (sp_62 isD_1 hci) rfl (ct_62 rfl lk_7_260 (Or.inl rfl) sh_40 (Nat.le_of_ble_eq_true rfl)) (fun s1 hs1 => ?_)
  obtain ⟨hf2, he3⟩ := hs1
  have hF4 := Fr_tr (lo := 0) (hi := 175) Fr_rf hf2 (by omega)
  have hci5 : CI s1 := he3
  refine ra_iconst rfl ?_
  refine ra_store (L' := [_, _, _, _, _, _]) rfl rfl rfl (Nat.le_of_ble_eq_true rfl) rfl ?_
  refine ra_load rfl rfl rfl rfl ?_
  refine ra_getR rfl lk_7_10 (Nat.zero_le _) sh_0 rfl ?_
  refine ra_getR rfl lk_7_203 (Nat.zero_le _) (sh_D isD_1) rfl ?_
  refine ra_store (L' := [_, _, _, _, _, _]) rfl rfl rfl (Nat.le_of_ble_eq_true rfl) rfl ?_
  refine ra_load rfl rfl rfl rfl ?_
  refine ra_alen rfl (sh_D2 isD_1) rfl ?_
  refine ra_store (L' := [_, _, _, _, _, _]) rfl rfl rfl (Nat.le_of_ble_eq_true rfl) rfl ?_
  refine ra_iconst rfl ?_
  refine ra_store (L' := [_, _, _, _, _, _]) rfl rfl rfl (Nat.le_of_ble_eq_true rfl) rfl ?_
  exact ra_weak (by repeat' constructor) (lp_152_27 hci _ (0) (0) s1 (by first | omega | (unfold ra_in at *; omega)) (by first | omega | (unfold ra_in at *; omega)) (by first | omega | (unfold ra_in at *; omega)) hF4 hci5 (Nat.lt_succ_self _))
theorem sp_153 {n : Nat} {f : Nat → Int32} {d : Nat}  {σ : ra_V} (hci : CI σ) : ra_C (g_Gs n f) g_sh 0 (d + 7) 153 [.index (0)] σ (fun r s => rI r ∧ Fr (0) (175) σ s ∧ CI s) := by
  refine ra_enter (nn := 0) mt_153 rfl (Nat.le_of_ble_eq_true rfl) rfl (fun h => absurd h (by decide +kernel)) ?_
  refine ra_load rfl rfl rfl rfl ?_
  refine ra_getR rfl lk_7_25 (Nat.zero_le _) sh_0 rfl ?_
  refine ra_load rfl rfl rfl rfl ?_
  refine ra_getR rfl lk_7_10 (Nat.zero_le _) sh_0 rfl ?_
  refine ra_cV (sp_62 isD_1 hci) rfl (ct_62 rfl lk_7_260 (Or.inl rfl) sh_40 (Nat.le_of_ble_eq_true rfl)) (fun s1 hs1 => ?_)
  obtain ⟨hf2, he3⟩ := hs1
  have hF4 := Fr_tr (lo := 0) (hi := 175) Fr_rf hf2 (by omega)
  have hci5 : CI s1 := he3
  refine ra_load rfl rfl rfl rfl ?_
  refine ra_getR rfl lk_7_10 (Nat.zero_le _) sh_0 rfl ?_
  refine ra_cI (sp_32 isD_1) rfl (ct_32 rfl lk_7_310 (Or.inl rfl) (sh_D isD_1) (Nat.le_of_ble_eq_true rfl)) (fun z7 s6  hz7 hs6 => ?_)
  have hF8 := Fr_tr (lo := 0) (hi := 175) hF4 hs6 (by omega)
  have hci9 : CI s6 := CI_fr hci5 hs6 (by omega)
  exact ra_ireturn rfl rfl ⟨⟨_, hz7, rfl⟩, ⟨hF8, hci9⟩⟩
theorem sp_159 {n : Nat} {f : Nat → Int32} {d : Nat} {x0 : Int} {x1 : Int} {σ : ra_V} (hx0 : ra_in x0) (hx1 : ra_in x1) (hci : CI σ) : ra_C (g_Gs n f) g_sh 0 (d + 7) 159 [.index (0), ra_I x0, ra_I x1] σ (fun r s => rX ["java/lang/IllegalStateException", "java/util/NoSuchElementException"] rI r ∧ Fr (0) (175) σ s ∧ CI s) := by
  refine ra_enter (nn := 1) mt_159 rfl (Nat.le_of_ble_eq_true rfl) rfl (fun _ => by omega) ?_
  refine ra_load rfl rfl rfl rfl ?_
  refine ra_load rfl rfl rfl rfl ?_
  refine ra_cXNp (sp_176 hx0) rfl (ct_176 rfl lk_7_135 (Or.inl rfl) sh_0 (Nat.le_of_ble_eq_true rfl)) rfl (fun j2 hj2 => ?_) (fun E hE => ⟨Or.inr ⟨E, (show ∀ E ∈ (["java/util/NoSuchElementException"] : List String), E ∈ (["java/lang/IllegalStateException", "java/util/NoSuchElementException"] : List String) by decide) E hE, rfl⟩, ⟨Fr_rf, hci⟩⟩)
  refine ra_store (L' := [_, _, _, _]) rfl rfl rfl (Nat.le_of_ble_eq_true rfl) rfl ?_
  refine ra_load rfl rfl rfl rfl ?_
  refine ra_getR rfl lk_7_10 (Nat.zero_le _) sh_0 rfl ?_
  refine ra_load rfl rfl rfl rfl ?_
  refine ra_load rfl rfl rfl rfl ?_
  refine ra_load rfl rfl rfl rfl ?_
  refine ra_getR rfl lk_7_10 (Nat.zero_le _) sh_0 rfl ?_
  refine ra_getI rfl lk_7_103 (Nat.zero_le _) (sh_D isD_1) rfl ?_
  refine ra_gen (fun z3 hz3 => ?_)
  refine ra_cIp (sp_19 isD_1 hj2 hx1 hz3) rfl (ct_19 rfl lk_7_313 (Or.inl rfl) (sh_D isD_1) (Nat.le_of_ble_eq_true rfl)) (fun z5 hz5 => ?_)
  refine ra_ifeq rfl rfl hz5 (fun h6 => ?_) (fun h6 => ?_)
  · refine ra_load rfl rfl rfl rfl ?_
    refine ra_getR rfl lk_7_25 (Nat.zero_le _) sh_0 rfl ?_
    refine ra_load rfl rfl rfl rfl ?_
    refine ra_getR rfl lk_7_10 (Nat.zero_le _) sh_0 rfl ?_
    refine ra_cV (sp_62 isD_1 hci) rfl (ct_62 rfl lk_7_260 (Or.inl rfl) sh_40 (Nat.le_of_ble_eq_true rfl)) (fun s7 hs7 => ?_)
    obtain ⟨hf8, he9⟩ := hs7
    have hF10 := Fr_tr (lo := 0) (hi := 175) Fr_rf hf8 (by omega)
    have hci11 : CI s7 := he9
    refine ra_load rfl rfl rfl rfl ?_
    refine ra_getR rfl lk_7_10 (Nat.zero_le _) sh_0 rfl ?_
    refine ra_load rfl rfl rfl rfl ?_
    refine ra_load rfl rfl rfl rfl ?_
    refine ra_cV (sp_36 isD_1 hj2 hx1) rfl (ct_36 rfl lk_7_328 (Or.inl rfl) (sh_D isD_1) (Nat.le_of_ble_eq_true rfl)) (fun s12 hs12 => ?_)
    have hF13 := Fr_tr (lo := 0) (hi := 175) hF10 hs12 (by omega)
    have hci14 : CI s12 := CI_fr hci11 hs12 (by omega)
    refine ra_load rfl rfl rfl rfl ?_
    refine ra_getR rfl lk_7_10 (Nat.zero_le _) sh_0 rfl ?_
    refine ra_getR rfl lk_7_331 (Nat.zero_le _) (sh_D isD_1) rfl ?_
    refine ra_cIp (sp_79 isD_1) rfl (ct_79 rfl lk_7_335 (Or.inl rfl) (sh_D3 isD_1) (Nat.le_of_ble_eq_true rfl)) (fun z16 hz16 => ?_)
    exact ra_ireturn rfl rfl ⟨Or.inl (⟨_, hz16, rfl⟩), ⟨hF13, hci14⟩⟩
  · exact ra_throw (E := "java/lang/IllegalStateException") rfl lk_7_267 (by decide +kernel) (fun _ => rfl) ⟨Or.inr ⟨_, by simp, rfl⟩, ⟨Fr_rf, hci⟩⟩
theorem sp_160 {n : Nat} {f : Nat → Int32} {d : Nat} {x0 : Int} {σ : ra_V} (hx0 : ra_in x0) (hci : CI σ) : ra_C (g_Gs n f) g_sh 0 (d + 7) 160 [.index (0), ra_I x0] σ (fun r s => rX ["java/lang/IllegalArgumentException", "java/lang/IllegalStateException"] rI r ∧ Fr (0) (175) σ s ∧ CI s) := by
  refine ra_enter (nn := 0) mt_160 rfl (Nat.le_of_ble_eq_true rfl) rfl (fun _ => by omega) ?_
  refine ra_load rfl rfl rfl rfl ?_
  refine ra_iconst rfl ?_
  refine ra_iclt rfl rfl hx0 (by first | omega | (unfold ra_in at *; omega)) (fun h1 => ?_) (fun h1 => ?_)
  · exact ra_throw (E := "java/lang/IllegalArgumentException") rfl lk_7_128 (by decide +kernel) (fun _ => rfl) ⟨Or.inr ⟨_, by simp, rfl⟩, ⟨Fr_rf, hci⟩⟩
  · refine ra_load rfl rfl rfl rfl ?_
    refine ra_sipush rfl (by decide) ?_
    refine ra_icle rfl rfl hx0 (by first | omega | (unfold ra_in at *; omega)) (fun h2 => ?_) (fun h2 => ?_)
    · refine ra_load rfl rfl rfl rfl ?_
      refine ra_cXVp (sp_183 ) rfl (ct_183 rfl lk_7_342 (Or.inl rfl) sh_0 (Nat.le_of_ble_eq_true rfl)) rfl ?_ (fun E hE => ⟨Or.inr ⟨E, (show ∀ E ∈ (["java/lang/IllegalStateException"] : List String), E ∈ (["java/lang/IllegalArgumentException", "java/lang/IllegalStateException"] : List String) by decide) E hE, rfl⟩, ⟨Fr_rf, hci⟩⟩)
      refine ra_load rfl rfl rfl rfl ?_
      refine ra_getR rfl lk_7_25 (Nat.zero_le _) sh_0 rfl ?_
      refine ra_load rfl rfl rfl rfl ?_
      refine ra_getR rfl lk_7_10 (Nat.zero_le _) sh_0 rfl ?_
      refine ra_cV (sp_62 isD_1 hci) rfl (ct_62 rfl lk_7_260 (Or.inl rfl) sh_40 (Nat.le_of_ble_eq_true rfl)) (fun s4 hs4 => ?_)
      obtain ⟨hf5, he6⟩ := hs4
      have hF7 := Fr_tr (lo := 0) (hi := 175) Fr_rf hf5 (by omega)
      have hci8 : CI s4 := he6
      refine ra_load rfl rfl rfl rfl ?_
      refine ra_getR rfl lk_7_10 (Nat.zero_le _) sh_0 rfl ?_
      refine ra_load rfl rfl rfl rfl ?_
      refine ra_cI (sp_37 isD_1 hx0) rfl (ct_37 rfl lk_7_345 (Or.inl rfl) (sh_D isD_1) (Nat.le_of_ble_eq_true rfl)) (fun z10 s9  hz10 hs9 => ?_)
      have hF11 := Fr_tr (lo := 0) (hi := 175) hF7 hs9 (by omega)
      have hci12 : CI s9 := CI_fr hci8 hs9 (by omega)
      exact ra_ireturn rfl rfl ⟨Or.inl (⟨_, hz10, rfl⟩), ⟨hF11, hci12⟩⟩
    · exact ra_throw (E := "java/lang/IllegalArgumentException") rfl lk_7_128 (by decide +kernel) (fun _ => rfl) ⟨Or.inr ⟨_, by simp, rfl⟩, ⟨Fr_rf, hci⟩⟩
theorem sp_161 {n : Nat} {f : Nat → Int32} {d : Nat}  {σ : ra_V} (hci : CI σ) : ra_C (g_Gs n f) g_sh 0 (d + 7) 161 [.index (0)] σ (fun r s => rX ["java/lang/IllegalStateException"] rI r ∧ Fr (0) (175) σ s ∧ CI s) := by
  refine ra_enter (nn := 0) mt_161 rfl (Nat.le_of_ble_eq_true rfl) rfl (fun h => absurd h (by decide +kernel)) ?_
  refine ra_load rfl rfl rfl rfl ?_
  refine ra_cXVp (sp_183 ) rfl (ct_183 rfl lk_7_342 (Or.inl rfl) sh_0 (Nat.le_of_ble_eq_true rfl)) rfl ?_ (fun E hE => ⟨Or.inr ⟨E, (show ∀ E ∈ (["java/lang/IllegalStateException"] : List String), E ∈ (["java/lang/IllegalStateException"] : List String) by decide) E hE, rfl⟩, ⟨Fr_rf, hci⟩⟩)
  refine ra_load rfl rfl rfl rfl ?_
  refine ra_getR rfl lk_7_25 (Nat.zero_le _) sh_0 rfl ?_
  refine ra_load rfl rfl rfl rfl ?_
  refine ra_getR rfl lk_7_10 (Nat.zero_le _) sh_0 rfl ?_
  refine ra_cV (sp_62 isD_1 hci) rfl (ct_62 rfl lk_7_260 (Or.inl rfl) sh_40 (Nat.le_of_ble_eq_true rfl)) (fun s2 hs2 => ?_)
  obtain ⟨hf3, he4⟩ := hs2
  have hF5 := Fr_tr (lo := 0) (hi := 175) Fr_rf hf3 (by omega)
  have hci6 : CI s2 := he4
  refine ra_load rfl rfl rfl rfl ?_
  refine ra_getR rfl lk_7_10 (Nat.zero_le _) sh_0 rfl ?_
  refine ra_cI (sp_39 isD_1) rfl (ct_39 rfl lk_7_348 (Or.inl rfl) (sh_D isD_1) (Nat.le_of_ble_eq_true rfl)) (fun z8 s7  hz8 hs7 => ?_)
  have hF9 := Fr_tr (lo := 0) (hi := 175) hF5 hs7 (by omega)
  have hci10 : CI s7 := CI_fr hci6 hs7 (by omega)
  exact ra_ireturn rfl rfl ⟨Or.inl (⟨_, hz8, rfl⟩), ⟨hF9, hci10⟩⟩
theorem sp_162 {n : Nat} {f : Nat → Int32} {d : Nat}  {σ : ra_V} (hci : CI σ) : ra_C (g_Gs n f) g_sh 0 (d + 7) 162 [.index (0)] σ (fun r s => rX ["java/lang/IllegalStateException"] rI r ∧ Fr (0) (175) σ s ∧ CI s) := by
  refine ra_enter (nn := 0) mt_162 rfl (Nat.le_of_ble_eq_true rfl) rfl (fun _ => by omega) ?_
  refine ra_load rfl rfl rfl rfl ?_
  refine ra_cXVp (sp_183 ) rfl (ct_183 rfl lk_7_342 (Or.inl rfl) sh_0 (Nat.le_of_ble_eq_true rfl)) rfl ?_ (fun E hE => ⟨Or.inr ⟨E, (show ∀ E ∈ (["java/lang/IllegalStateException"] : List String), E ∈ (["java/lang/IllegalStateException"] : List String) by decide) E hE, rfl⟩, ⟨Fr_rf, hci⟩⟩)
  refine ra_load rfl rfl rfl rfl ?_
  refine ra_getR rfl lk_7_10 (Nat.zero_le _) sh_0 rfl ?_
  refine ra_getR rfl lk_7_331 (Nat.zero_le _) (sh_D isD_1) rfl ?_
  refine ra_getBw rfl lk_7_351 (Nat.zero_le _) (sh_D3 isD_1) rfl (fun z2 hz2 => ?_)
  refine ra_ifeq rfl rfl (ra_in01 hz2) (fun h3 => ?_) (fun h3 => ?_)
  · refine ra_load rfl rfl rfl rfl ?_
    refine ra_getR rfl lk_7_25 (Nat.zero_le _) sh_0 rfl ?_
    refine ra_load rfl rfl rfl rfl ?_
    refine ra_getR rfl lk_7_10 (Nat.zero_le _) sh_0 rfl ?_
    refine ra_cV (sp_62 isD_1 hci) rfl (ct_62 rfl lk_7_260 (Or.inl rfl) sh_40 (Nat.le_of_ble_eq_true rfl)) (fun s4 hs4 => ?_)
    obtain ⟨hf5, he6⟩ := hs4
    have hF7 := Fr_tr (lo := 0) (hi := 175) Fr_rf hf5 (by omega)
    have hci8 : CI s4 := he6
    refine ra_load rfl rfl rfl rfl ?_
    refine ra_getR rfl lk_7_10 (Nat.zero_le _) sh_0 rfl ?_
    refine ra_cV (sp_42 isD_1) rfl (ct_42 rfl lk_7_356 (Or.inl rfl) (sh_D isD_1) (Nat.le_of_ble_eq_true rfl)) (fun s9 hs9 => ?_)
    have hF10 := Fr_tr (lo := 0) (hi := 175) hF7 hs9 (by omega)
    have hci11 : CI s9 := CI_fr hci8 hs9 (by omega)
    refine ra_load rfl rfl rfl rfl ?_
    refine ra_getR rfl lk_7_10 (Nat.zero_le _) sh_0 rfl ?_
    refine ra_getR rfl lk_7_331 (Nat.zero_le _) (sh_D isD_1) rfl ?_
    refine ra_cIp (sp_79 isD_1) rfl (ct_79 rfl lk_7_335 (Or.inl rfl) (sh_D3 isD_1) (Nat.le_of_ble_eq_true rfl)) (fun z13 hz13 => ?_)
    exact ra_ireturn rfl rfl ⟨Or.inl (⟨_, hz13, rfl⟩), ⟨hF10, hci11⟩⟩
  · exact ra_throw (E := "java/lang/IllegalStateException") rfl lk_7_267 (by decide +kernel) (fun _ => rfl) ⟨Or.inr ⟨_, by simp, rfl⟩, ⟨Fr_rf, hci⟩⟩
theorem sp_167 {n : Nat} {f : Nat → Int32} {d : Nat}  {σ : ra_V} (hci : CI σ) : ra_C (g_Gs n f) g_sh 0 (d + 8) 167 [.index (0)] σ (fun r s => rX ["java/lang/IllegalStateException"] rI r ∧ Fr (0) (175) σ s ∧ CI s) := by
  refine ra_enter (nn := 0) mt_167 rfl (Nat.le_of_ble_eq_true rfl) rfl (fun h => absurd h (by decide +kernel)) ?_
  refine ra_load rfl rfl rfl rfl ?_
  refine ra_cXVp (sp_184 ) rfl (ct_184 rfl lk_7_405 (Or.inl rfl) sh_0 (Nat.le_of_ble_eq_true rfl)) rfl ?_ (fun E hE => ⟨Or.inr ⟨E, (show ∀ E ∈ (["java/lang/IllegalStateException"] : List String), E ∈ (["java/lang/IllegalStateException"] : List String) by decide) E hE, rfl⟩, ⟨Fr_rf, hci⟩⟩)
  refine ra_load rfl rfl rfl rfl ?_
  refine ra_getR rfl lk_7_25 (Nat.zero_le _) sh_0 rfl ?_
  refine ra_load rfl rfl rfl rfl ?_
  refine ra_getR rfl lk_7_10 (Nat.zero_le _) sh_0 rfl ?_
  refine ra_cV (sp_62 isD_1 hci) rfl (ct_62 rfl lk_7_260 (Or.inl rfl) sh_40 (Nat.le_of_ble_eq_true rfl)) (fun s2 hs2 => ?_)
  obtain ⟨hf3, he4⟩ := hs2
  have hF5 := Fr_tr (lo := 0) (hi := 175) Fr_rf hf3 (by omega)
  have hci6 : CI s2 := he4
  refine ra_load rfl rfl rfl rfl ?_
  refine ra_getR rfl lk_7_10 (Nat.zero_le _) sh_0 rfl ?_
  refine ra_cI (sp_45 isD_1) rfl (ct_45 rfl lk_7_408 (Or.inl rfl) (sh_D isD_1) (Nat.le_of_ble_eq_true rfl)) (fun z8 s7  hz8 hs7 => ?_)
  have hF9 := Fr_tr (lo := 0) (hi := 175) hF5 hs7 (by omega)
  have hci10 : CI s7 := CI_fr hci6 hs7 (by omega)
  exact ra_ireturn rfl rfl ⟨Or.inl (⟨_, hz8, rfl⟩), ⟨hF9, hci10⟩⟩
theorem sp_168 {n : Nat} {f : Nat → Int32} {d : Nat}  {σ : ra_V} (hci : CI σ) : ra_C (g_Gs n f) g_sh 0 (d + 8) 168 [.index (0)] σ (fun r s => rI r ∧ Fr (0) (175) σ s ∧ CI s) := by
  refine ra_enter (nn := 0) mt_168 rfl (Nat.le_of_ble_eq_true rfl) rfl (fun h => absurd h (by decide +kernel)) ?_
  refine ra_load rfl rfl rfl rfl ?_
  refine ra_getR rfl lk_7_10 (Nat.zero_le _) sh_0 rfl ?_
  refine ra_getR rfl lk_7_331 (Nat.zero_le _) (sh_D isD_1) rfl ?_
  refine ra_cBp (sp_67 isD_1) rfl (ct_67 rfl lk_7_359 (Or.inl rfl) (sh_D3 isD_1) (Nat.le_of_ble_eq_true rfl)) (fun z2 hz2 => ?_)
  refine ra_ifeq rfl rfl (ra_in01 hz2) (fun h3 => ?_) (fun h3 => ?_)
  · refine ra_load rfl rfl rfl rfl ?_
    refine ra_getR rfl lk_7_16 (Nat.zero_le _) sh_0 rfl ?_
    refine ra_load rfl rfl rfl rfl ?_
    refine ra_getR rfl lk_7_10 (Nat.zero_le _) sh_0 rfl ?_
    refine ra_cV (sp_2 isD_14 isD_1) rfl (ct_2 rfl lk_7_69 (Or.inl rfl) (sh_D isD_14) (Nat.le_of_ble_eq_true rfl)) (fun s4 hs4 => ?_)
    have hF5 := Fr_tr (lo := 0) (hi := 175) Fr_rf hs4 (by omega)
    have hci6 : CI s4 := CI_fr hci hs4 (by omega)
    refine ra_load rfl rfl rfl rfl ?_
    refine ra_getR rfl lk_7_16 (Nat.zero_le _) sh_0 rfl ?_
    refine ra_cI (sp_45 isD_14) rfl (ct_45 rfl lk_7_408 (Or.inl rfl) (sh_D isD_14) (Nat.le_of_ble_eq_true rfl)) (fun z8 s7  hz8 hs7 => ?_)
    have hF9 := Fr_tr (lo := 0) (hi := 175) hF5 hs7 (by omega)
    have hci10 : CI s7 := CI_fr hci6 hs7 (by omega)
    refine ra_pop rfl rfl ?_
    refine ra_load rfl rfl rfl rfl ?_
    refine ra_getR rfl lk_7_16 (Nat.zero_le _) sh_0 rfl ?_
    refine ra_getI rfl lk_7_116 (Nat.zero_le _) (sh_D isD_14) rfl ?_
    refine ra_gen (fun z11 hz11 => ?_)
    refine ra_load rfl rfl rfl rfl ?_
    refine ra_getR rfl lk_7_10 (Nat.zero_le _) sh_0 rfl ?_
    refine ra_getI rfl lk_7_116 (Nat.zero_le _) (sh_D isD_1) rfl ?_
    refine ra_gen (fun z12 hz12 => ?_)
    refine ra_isub rfl ?_
    refine ra_gen (fun z13 hz13 => ?_)
    exact ra_ireturn rfl rfl ⟨⟨_, hz13, rfl⟩, ⟨hF9, hci10⟩⟩
  · refine ra_iconst rfl ?_
    exact ra_ireturn rfl rfl ⟨⟨_, (by first | omega | (unfold ra_in at *; omega)), rfl⟩, ⟨Fr_rf, hci⟩⟩
theorem sp_172 {n : Nat} {f : Nat → Int32} {d : Nat}  {σ : ra_V} (hci : CI σ) : ra_C (g_Gs n f) g_sh 0 (d + 4) 172 [.index (0)] σ (fun r s => rI r ∧ Fr (0) (175) σ s ∧ CI s) := by
  refine ra_enter (nn := 0) mt_172 rfl (Nat.le_of_ble_eq_true rfl) rfl (fun h => absurd h (by decide +kernel)) ?_
  refine ra_load rfl rfl rfl rfl ?_
  refine ra_getR rfl lk_7_25 (Nat.zero_le _) sh_0 rfl ?_
  refine ra_load rfl rfl rfl rfl ?_
  refine ra_getR rfl lk_7_10 (Nat.zero_le _) sh_0 rfl ?_
  refine ra_cB (sp_63 isD_1 (by first | assumption | rfl | omega) hci) rfl (ct_63 rfl lk_7_432 (Or.inl rfl) sh_40 (Nat.le_of_ble_eq_true rfl)) (fun z2 s1  hz2 hs1 => ?_)
  obtain ⟨hf3, he4⟩ := hs1
  have hF5 := Fr_tr (lo := 0) (hi := 175) Fr_rf hf3 (by omega)
  have hci6 : CI s1 := he4
  refine ra_ifeq rfl rfl (ra_in01 hz2) (fun h7 => ?_) (fun h7 => ?_)
  · refine ra_iconst rfl ?_
    exact ra_ireturn rfl rfl ⟨⟨_, (by first | omega | (unfold ra_in at *; omega)), rfl⟩, ⟨hF5, hci6⟩⟩
  · refine ra_load rfl rfl rfl rfl ?_
    refine ra_getR rfl lk_7_25 (Nat.zero_le _) sh_0 rfl ?_
    refine ra_getI rfl lk_7_125 (Nat.zero_le _) sh_40 rfl ?_
    refine ra_gen (fun z8 hz8 => ?_)
    refine ra_goto rfl rfl ?_
    exact ra_ireturn rfl rfl ⟨⟨_, hz8, rfl⟩, ⟨hF5, hci6⟩⟩
theorem sp_173 {n : Nat} {f : Nat → Int32} {d : Nat}  {σ : ra_V} (hci : CI σ) : ra_C (g_Gs n f) g_sh 0 (d + 3) 173 [.index (0)] σ (fun r s => rI r ∧ Fr (0) (175) σ s ∧ CI s) := by
  refine ra_enter (nn := 0) mt_173 rfl (Nat.le_of_ble_eq_true rfl) rfl (fun h => absurd h (by decide +kernel)) ?_
  refine ra_load rfl rfl rfl rfl ?_
  refine ra_getR rfl lk_7_19 (Nat.zero_le _) sh_0 rfl ?_
  refine ra_load rfl rfl rfl rfl ?_
  refine ra_getR rfl lk_7_10 (Nat.zero_le _) sh_0 rfl ?_
  refine ra_cV (sp_2 isD_27 isD_1) rfl (ct_2 rfl lk_7_69 (Or.inl rfl) (sh_D isD_27) (Nat.le_of_ble_eq_true rfl)) (fun s1 hs1 => ?_)
  have hF2 := Fr_tr (lo := 0) (hi := 175) Fr_rf hs1 (by omega)
  have hci3 : CI s1 := CI_fr hci hs1 (by omega)
  refine ra_load rfl rfl rfl rfl ?_
  refine ra_iconst rfl ?_
  refine ra_putB rfl lk_7_76 (Nat.zero_le _) sh_0 rfl rfl (Or.inr rfl) ?_
  refine ra_new Fr_up (fun s4 hs4 => ?_)
  have hF5 := Fr_tr (lo := 0) (hi := 175) hF2 hs4 (by omega)
  have hci6 : CI s4 := CI_fr hci3 hs4 (by omega)
  refine ra_load rfl rfl rfl rfl ?_
  refine ra_getR rfl lk_7_10 (Nat.zero_le _) sh_0 rfl ?_
  refine ra_cIp (sp_4 isD_1) rfl (ct_4 rfl lk_7_83 (Or.inl rfl) (sh_D isD_1) (Nat.le_of_ble_eq_true rfl)) (fun z8 hz8 => ?_)
  exact ra_ireturn rfl rfl ⟨⟨_, hz8, rfl⟩, ⟨hF5, hci6⟩⟩
theorem sp_174 {n : Nat} {f : Nat → Int32} {d : Nat}  {σ : ra_V} (hci : CI σ) : ra_C (g_Gs n f) g_sh 0 (d + 6) 174 [.index (0)] σ (fun r s => rX ["java/lang/IllegalStateException"] rI r ∧ Fr (0) (175) σ s ∧ CI s) := by
  refine ra_enter (nn := 0) mt_174 rfl (Nat.le_of_ble_eq_true rfl) rfl (fun _ => by omega) ?_
  refine ra_load rfl rfl rfl rfl ?_
  refine ra_getBw rfl lk_7_76 (Nat.zero_le _) sh_0 rfl (fun z1 hz1 => ?_)
  refine ra_ifne rfl rfl (ra_in01 hz1) (fun h2 => ?_) (fun h2 => ?_)
  · refine ra_load rfl rfl rfl rfl ?_
    refine ra_getR rfl lk_7_10 (Nat.zero_le _) sh_0 rfl ?_
    refine ra_load rfl rfl rfl rfl ?_
    refine ra_getR rfl lk_7_19 (Nat.zero_le _) sh_0 rfl ?_
    refine ra_cV (sp_2 isD_1 isD_27) rfl (ct_2 rfl lk_7_69 (Or.inl rfl) (sh_D isD_1) (Nat.le_of_ble_eq_true rfl)) (fun s3 hs3 => ?_)
    have hF4 := Fr_tr (lo := 0) (hi := 175) Fr_rf hs3 (by omega)
    have hci5 : CI s3 := CI_fr hci hs3 (by omega)
    refine ra_load rfl rfl rfl rfl ?_
    refine ra_getR rfl lk_7_25 (Nat.zero_le _) sh_0 rfl ?_
    refine ra_cV (sp_64 hci5) rfl (ct_64 rfl lk_7_73 (Or.inl rfl) sh_40 (Nat.le_of_ble_eq_true rfl)) (fun s6 hs6 => ?_)
    obtain ⟨hf7, he8⟩ := hs6
    have hF9 := Fr_tr (lo := 0) (hi := 175) hF4 hf7 (by omega)
    have hci10 : CI s6 := he8
    refine ra_load rfl rfl rfl rfl ?_
    refine ra_getR rfl lk_7_10 (Nat.zero_le _) sh_0 rfl ?_
    refine ra_cIp (sp_4 isD_1) rfl (ct_4 rfl lk_7_83 (Or.inl rfl) (sh_D isD_1) (Nat.le_of_ble_eq_true rfl)) (fun z12 hz12 => ?_)
    exact ra_ireturn rfl rfl ⟨Or.inl (⟨_, hz12, rfl⟩), ⟨hF9, hci10⟩⟩
  · exact ra_throw (E := "java/lang/IllegalStateException") rfl lk_7_267 (by decide +kernel) (fun _ => rfl) ⟨Or.inr ⟨_, by simp, rfl⟩, ⟨Fr_rf, hci⟩⟩
theorem lp_169_85 {n : Nat} {f : Nat → Int32} {d : Nat} {x0 : Int} {σ : ra_V} (hx0 : ra_in x0) (hci : CI σ) {nn62 : Nat} (ih62 : ∀ (v2 : Int) (v3 : Int) (v6 : Int) (s : ra_V) (hv2 : ra_in v2) (hv3 : ra_in v3) (hv6_0 : 0 ≤ v6) (hv6_1 : v6 ≤ 8) (hF : Fr (0) (175) σ s) (hcs : CI s) (hm : ((8 - v6 : Int)).toNat < nn62), ra_P (g_Gs n f) g_sh 0 (d + 6) g_m_X7_cheapestMove 62 [some (.index (0)), some (ra_I x0), some (ra_I v2), some (ra_I v3), some (.index (1 + 2)), some (ra_I ((8 : Nat) : Int)), some (ra_I v6), none, none, none] [] s (fun r s => rX ["java/lang/IllegalArgumentException", "java/lang/IllegalStateException"] rI r ∧ Fr (0) (175) σ s ∧ CI s)) : ∀ (nn : Nat) (v2 : Int) (v3 : Int) (v6 : Int) (q7 : Nat) (v8 : Int) (s : ra_V) (hv2 : ra_in v2) (hv3 : ra_in v3) (hv6_0 : 0 ≤ v6) (hv6_1 : v6 < 8) (hq7 : q7 < 8) (hv8_0 : ra_in v8) (hF : Fr (0) (175) σ s) (hcs : CI s) (hm0 : (8 - (v6 + 1)).toNat < nn62) (hm : ((2147483647 - v8 : Int)).toNat < nn), ra_P (g_Gs n f) g_sh 0 (d + 6) g_m_X7_cheapestMove 85 [some (.index (0)), some (ra_I x0), some (ra_I v2), some (ra_I v3), some (.index (1 + 2)), some (ra_I ((8 : Nat) : Int)), some (ra_I v6), some (.index (1 + 5 + q7)), some (ra_I v8), none] [] s (fun r s => rX ["java/lang/IllegalArgumentException", "java/lang/IllegalStateException"] rI r ∧ Fr (0) (175) σ s ∧ CI s) := by
  intro nn
  induction nn with
  | zero => intro v2 v3 v6 q7 v8 s hv2 hv3 hv6_0 hv6_1 hq7 hv8_0 hF hcs hm0 hm; exact absurd hm (Nat.not_lt_zero _)
  | succ nn ih =>
    intro v2 v3 v6 q7 v8 s hv2 hv3 hv6_0 hv6_1 hq7 hv8_0 hF hcs hm0 hm
    refine ra_load rfl rfl rfl rfl ?_
    refine ra_getR rfl lk_7_10 (Nat.zero_le _) sh_0 rfl ?_
    refine ra_load rfl rfl rfl rfl ?_
    refine ra_cBp (sp_8 isD_1 hq7) rfl (ct_8 rfl lk_7_207 (Or.inl rfl) (sh_D isD_1) (Nat.le_of_ble_eq_true rfl)) (fun z14 hz14 => ?_)
    refine ra_ifeq rfl rfl (ra_in01 hz14) (fun h15 => ?_) (fun h15 => ?_)
    · refine ra_iinc (L' := [_, _, _, _, _, _, _, _, _, _]) rfl rfl (Nat.le_of_ble_eq_true rfl) rfl ?_
      refine ra_goto rfl rfl ?_
      exact ra_weak (by repeat' constructor) (ih62 v2 v3 (v6 + 1) s hv2 hv3 (by first | omega | (unfold ra_in at *; omega)) (by first | omega | (unfold ra_in at *; omega)) hF hcs (by first | omega | (unfold ra_in at *; omega)))
    · refine ra_load rfl rfl rfl rfl ?_
      refine ra_load rfl rfl rfl rfl ?_
      refine ra_getR rfl lk_7_10 (Nat.zero_le _) sh_0 rfl ?_
      refine ra_cIp (sp_9 isD_1) rfl (ct_9 rfl lk_7_197 (Or.inl rfl) (sh_D isD_1) (Nat.le_of_ble_eq_true rfl)) (fun z17 hz17 => ?_)
      refine ra_icge rfl rfl (by first | omega | (unfold ra_in at *; omega)) hz17 (fun h18 => ?_) (fun h18 => ?_)
      · refine ra_iinc (L' := [_, _, _, _, _, _, _, _, _, _]) rfl rfl (Nat.le_of_ble_eq_true rfl) rfl ?_
        refine ra_goto rfl rfl ?_
        exact ra_weak (by repeat' constructor) (ih62 v2 v3 (v6 + 1) s hv2 hv3 (by first | omega | (unfold ra_in at *; omega)) (by first | omega | (unfold ra_in at *; omega)) hF hcs (by first | omega | (unfold ra_in at *; omega)))
      · refine ra_load rfl rfl rfl rfl ?_
        refine ra_getR rfl lk_7_10 (Nat.zero_le _) sh_0 rfl ?_
        refine ra_load rfl rfl rfl rfl ?_
        refine ra_load rfl rfl rfl rfl ?_
        refine ra_load rfl rfl rfl rfl ?_
        refine ra_cBp (sp_46 isD_1 hq7 (by first | omega | (unfold ra_in at *; omega)) hx0) rfl (ct_46 rfl lk_7_414 (Or.inl rfl) (sh_D isD_1) (Nat.le_of_ble_eq_true rfl)) (fun z20 hz20 => ?_)
        refine ra_ifeq rfl rfl (ra_in01 hz20) (fun h21 => ?_) (fun h21 => ?_)
        · refine ra_iconst rfl ?_
          refine ra_store (L' := [_, _, _, _, _, _, _, _, _, _]) rfl rfl rfl (Nat.le_of_ble_eq_true rfl) rfl ?_
          refine ra_load rfl rfl rfl rfl ?_
          refine ra_iflt rfl rfl (by first | omega | (unfold ra_in at *; omega)) (fun h22 => ?_) (fun h22 => ?_)
          · refine ra_iinc (L' := [_, _, _, _, _, _, _, _, _, _]) rfl rfl (Nat.le_of_ble_eq_true rfl) rfl ?_
            refine ra_goto rfl rfl ?_
            exact ra_weak (by repeat' constructor) (ih v2 v3 v6 q7 (v8 + 1) s hv2 hv3 (by first | omega | (unfold ra_in at *; omega)) (by first | omega | (unfold ra_in at *; omega)) hq7 (by first | omega | (unfold ra_in at *; omega)) hF hcs (by omega) (by first | omega | (unfold ra_in at *; omega)))
          · exact absurd h22 (by decide)
        · refine ra_load rfl rfl rfl rfl ?_
          refine ra_getR rfl lk_7_10 (Nat.zero_le _) sh_0 rfl ?_
          refine ra_load rfl rfl rfl rfl ?_
          refine ra_load rfl rfl rfl rfl ?_
          refine ra_load rfl rfl rfl rfl ?_
          refine ra_getR rfl lk_7_10 (Nat.zero_le _) sh_0 rfl ?_
          refine ra_getI rfl lk_7_103 (Nat.zero_le _) (sh_D isD_1) rfl ?_
          refine ra_gen (fun z23 hz23 => ?_)
          refine ra_cIp (sp_35 isD_1 hq7 (by first | omega | (unfold ra_in at *; omega)) hz23) rfl (ct_35 rfl lk_7_317 (Or.inl rfl) (sh_D isD_1) (Nat.le_of_ble_eq_true rfl)) (fun z25 hz25 => ?_)
          refine ra_goto rfl rfl ?_
          refine ra_store (L' := [_, _, _, _, _, _, _, _, _, _]) rfl rfl rfl (Nat.le_of_ble_eq_true rfl) rfl ?_
          refine ra_load rfl rfl rfl rfl ?_
          refine ra_iflt rfl rfl hz25 (fun h26 => ?_) (fun h26 => ?_)
          · refine ra_iinc (L' := [_, _, _, _, _, _, _, _, _, _]) rfl rfl (Nat.le_of_ble_eq_true rfl) rfl ?_
            refine ra_goto rfl rfl ?_
            exact ra_weak (by repeat' constructor) (ih v2 v3 v6 q7 (v8 + 1) s hv2 hv3 (by first | omega | (unfold ra_in at *; omega)) (by first | omega | (unfold ra_in at *; omega)) hq7 (by first | omega | (unfold ra_in at *; omega)) hF hcs (by omega) (by first | omega | (unfold ra_in at *; omega)))
          · refine ra_load rfl rfl rfl rfl ?_
            refine ra_iflt rfl rfl hv2 (fun h27 => ?_) (fun h27 => ?_)
            · refine ra_sipush rfl (by decide) ?_
              refine ra_load rfl rfl rfl rfl ?_
              refine ra_getK rfl lk_7_190 (Nat.zero_le _) (sh_P isD_1 hq7) rfl ?_
              refine ra_imul rfl ?_
              refine ra_gen (fun z28 hz28 => ?_)
              refine ra_load rfl rfl rfl rfl ?_
              refine ra_iadd rfl ?_
              refine ra_gen (fun z29 hz29 => ?_)
              refine ra_store (L' := [_, _, _, _, _, _, _, _, _, _]) rfl rfl rfl (Nat.le_of_ble_eq_true rfl) rfl ?_
              refine ra_load rfl rfl rfl rfl ?_
              refine ra_store (L' := [_, _, _, _, _, _, _, _, _, _]) rfl rfl rfl (Nat.le_of_ble_eq_true rfl) rfl ?_
              refine ra_iinc (L' := [_, _, _, _, _, _, _, _, _, _]) rfl rfl (Nat.le_of_ble_eq_true rfl) rfl ?_
              refine ra_goto rfl rfl ?_
              exact ra_weak (by repeat' constructor) (ih z29 z25 v6 q7 (v8 + 1) s hz29 hz25 (by first | omega | (unfold ra_in at *; omega)) (by first | omega | (unfold ra_in at *; omega)) hq7 (by first | omega | (unfold ra_in at *; omega)) hF hcs (by omega) (by first | omega | (unfold ra_in at *; omega)))
            · refine ra_load rfl rfl rfl rfl ?_
              refine ra_load rfl rfl rfl rfl ?_
              refine ra_icge rfl rfl hz25 hv3 (fun h30 => ?_) (fun h30 => ?_)
              · refine ra_iinc (L' := [_, _, _, _, _, _, _, _, _, _]) rfl rfl (Nat.le_of_ble_eq_true rfl) rfl ?_
                refine ra_goto rfl rfl ?_
                exact ra_weak (by repeat' constructor) (ih v2 v3 v6 q7 (v8 + 1) s hv2 hv3 (by first | omega | (unfold ra_in at *; omega)) (by first | omega | (unfold ra_in at *; omega)) hq7 (by first | omega | (unfold ra_in at *; omega)) hF hcs (by omega) (by first | omega | (unfold ra_in at *; omega)))
              · refine ra_sipush rfl (by decide) ?_
                refine ra_load rfl rfl rfl rfl ?_
                refine ra_getK rfl lk_7_190 (Nat.zero_le _) (sh_P isD_1 hq7) rfl ?_
                refine ra_imul rfl ?_
                refine ra_gen (fun z31 hz31 => ?_)
                refine ra_load rfl rfl rfl rfl ?_
                refine ra_iadd rfl ?_
                refine ra_gen (fun z32 hz32 => ?_)
                refine ra_store (L' := [_, _, _, _, _, _, _, _, _, _]) rfl rfl rfl (Nat.le_of_ble_eq_true rfl) rfl ?_
                refine ra_load rfl rfl rfl rfl ?_
                refine ra_store (L' := [_, _, _, _, _, _, _, _, _, _]) rfl rfl rfl (Nat.le_of_ble_eq_true rfl) rfl ?_
                refine ra_iinc (L' := [_, _, _, _, _, _, _, _, _, _]) rfl rfl (Nat.le_of_ble_eq_true rfl) rfl ?_
                refine ra_goto rfl rfl ?_
                exact ra_weak (by repeat' constructor) (ih z32 z25 v6 q7 (v8 + 1) s hz32 hz25 (by first | omega | (unfold ra_in at *; omega)) (by first | omega | (unfold ra_in at *; omega)) hq7 (by first | omega | (unfold ra_in at *; omega)) hF hcs (by omega) (by first | omega | (unfold ra_in at *; omega)))
theorem lp_169_62 {n : Nat} {f : Nat → Int32} {d : Nat} {x0 : Int} {σ : ra_V} (hx0 : ra_in x0) (hci : CI σ) : ∀ (nn : Nat) (v2 : Int) (v3 : Int) (v6 : Int) (s : ra_V) (hv2 : ra_in v2) (hv3 : ra_in v3) (hv6_0 : 0 ≤ v6) (hv6_1 : v6 ≤ 8) (hF : Fr (0) (175) σ s) (hcs : CI s) (hm : ((8 - v6 : Int)).toNat < nn), ra_P (g_Gs n f) g_sh 0 (d + 6) g_m_X7_cheapestMove 62 [some (.index (0)), some (ra_I x0), some (ra_I v2), some (ra_I v3), some (.index (1 + 2)), some (ra_I ((8 : Nat) : Int)), some (ra_I v6), none, none, none] [] s (fun r s => rX ["java/lang/IllegalArgumentException", "java/lang/IllegalStateException"] rI r ∧ Fr (0) (175) σ s ∧ CI s) := by
  intro nn
  induction nn with
  | zero => intro v2 v3 v6 s hv2 hv3 hv6_0 hv6_1 hF hcs hm; exact absurd hm (Nat.not_lt_zero _)
  | succ nn ih =>
    intro v2 v3 v6 s hv2 hv3 hv6_0 hv6_1 hF hcs hm
    refine ra_load rfl rfl rfl rfl ?_
    refine ra_load rfl rfl rfl rfl ?_
    refine ra_icge rfl rfl (by first | omega | (unfold ra_in at *; omega)) (by first | omega | (unfold ra_in at *; omega)) (fun h10 => ?_) (fun h10 => ?_)
    · refine ra_load rfl rfl rfl rfl ?_
      exact ra_ireturn rfl rfl ⟨Or.inl (⟨_, hv2, rfl⟩), ⟨hF, hcs⟩⟩
    · refine ra_load rfl rfl rfl rfl ?_
      refine ra_load rfl rfl rfl rfl ?_
      refine ra_aaload rfl (sh_D2 isD_1) rfl (by decide) (by first | omega | (unfold ra_in at *; omega)) (by first | omega | (unfold ra_in at *; omega)) (sh_pt (by first | omega | (unfold ra_in at *; omega)) (by first | omega | (unfold ra_in at *; omega))) rfl ?_
      have hi11 : v6.toNat < 8 := (by first | omega | (unfold ra_in at *; omega))
      refine ra_store (L' := [_, _, _, _, _, _, _, _, _, _]) rfl rfl rfl (Nat.le_of_ble_eq_true rfl) rfl ?_
      refine ra_load rfl rfl rfl rfl ?_
      refine ra_getR rfl lk_7_10 (Nat.zero_le _) sh_0 rfl ?_
      refine ra_getI rfl lk_7_94 (Nat.zero_le _) (sh_D isD_1) rfl ?_
      refine ra_gen (fun z12 hz12 => ?_)
      refine ra_store (L' := [_, _, _, _, _, _, _, _, _, _]) rfl rfl rfl (Nat.le_of_ble_eq_true rfl) rfl ?_
      exact ra_weak (by repeat' constructor) (lp_169_85 hx0 hci ih _ v2 v3 v6 v6.toNat z12 s hv2 hv3 (by first | omega | (unfold ra_in at *; omega)) (by first | omega | (unfold ra_in at *; omega)) hi11 hz12 hF hcs (by omega) (Nat.lt_succ_self _))
theorem sp_169 {n : Nat} {f : Nat → Int32} {d : Nat} {x0 : Int} {σ : ra_V} (hx0 : ra_in x0) (hci : CI σ) : ra_C (g_Gs n f) g_sh 0 (d + 7) 169 [.index (0), ra_I x0] σ (fun r s => rX ["java/lang/IllegalArgumentException", "java/lang/IllegalStateException"] rI r ∧ Fr (0) (175) σ s ∧ CI s) := by
  refine ra_enter (nn := 8) mt_169 rfl (Nat.le_of_ble_eq_true rfl) rfl (fun _ => by omega) ?_
  refine ra_load rfl rfl rfl rfl ?_
  refine ra_iconst rfl ?_
  refine ra_iclt rfl rfl hx0 (by first | omega | (unfold ra_in at *; omega)) (fun h1 => ?_) (fun h1 => ?_)
  · exact ra_throw (E := "java/lang/IllegalArgumentException") rfl lk_7_128 (by decide +kernel) (fun _ => rfl) ⟨Or.inr ⟨_, by simp, rfl⟩, ⟨Fr_rf, hci⟩⟩
  · refine ra_load rfl rfl rfl rfl ?_
    refine ra_sipush rfl (by decide) ?_
    refine ra_icle rfl rfl hx0 (by first | omega | (unfold ra_in at *; omega)) (fun h2 => ?_) (fun h2 => ?_)
    · refine ra_load rfl rfl rfl rfl ?_
      refine ra_cXVp (sp_184 ) rfl (ct_184 rfl lk_7_405 (Or.inl rfl) sh_0 (Nat.le_of_ble_eq_true rfl)) rfl ?_ (fun E hE => ⟨Or.inr ⟨E, (show ∀ E ∈ (["java/lang/IllegalStateException"] : List String), E ∈ (["java/lang/IllegalArgumentException", "java/lang/IllegalStateException"] : List String) by decide) E hE, rfl⟩, ⟨Fr_rf, hci⟩⟩)
      refine ra_load rfl rfl rfl rfl ?_
      refine ra_cR (sp_175 ) rfl (ct_175 rfl lk_7_106 (Or.inl rfl) sh_0 (Nat.le_of_ble_eq_true rfl)) (fun s4 hs4 => ?_)
      have hF5 := Fr_tr (lo := 0) (hi := 175) Fr_rf hs4 (by omega)
      have hci6 : CI s4 := CI_fr hci hs4 (by omega)
      refine ra_cIp (sp_57 ) rfl (ct_57 rfl lk_7_411 (Or.inl rfl) sh_172 (Nat.le_of_ble_eq_true rfl)) (fun z8 hz8 => ?_)
      refine ra_load rfl rfl rfl rfl ?_
      refine ra_iclt rfl rfl hz8 hx0 (fun h9 => ?_) (fun h9 => ?_)
      · refine ra_iconst rfl ?_
        refine ra_store (L' := [_, _, _, _, _, _, _, _, _, _]) rfl rfl rfl (Nat.le_of_ble_eq_true rfl) rfl ?_
        refine ra_iconst rfl ?_
        refine ra_store (L' := [_, _, _, _, _, _, _, _, _, _]) rfl rfl rfl (Nat.le_of_ble_eq_true rfl) rfl ?_
        refine ra_load rfl rfl rfl rfl ?_
        refine ra_getR rfl lk_7_10 (Nat.zero_le _) sh_0 rfl ?_
        refine ra_getR rfl lk_7_203 (Nat.zero_le _) (sh_D isD_1) rfl ?_
        refine ra_store (L' := [_, _, _, _, _, _, _, _, _, _]) rfl rfl rfl (Nat.le_of_ble_eq_true rfl) rfl ?_
        refine ra_load rfl rfl rfl rfl ?_
        refine ra_alen rfl (sh_D2 isD_1) rfl ?_
        refine ra_store (L' := [_, _, _, _, _, _, _, _, _, _]) rfl rfl rfl (Nat.le_of_ble_eq_true rfl) rfl ?_
        refine ra_iconst rfl ?_
        refine ra_store (L' := [_, _, _, _, _, _, _, _, _, _]) rfl rfl rfl (Nat.le_of_ble_eq_true rfl) rfl ?_
        exact ra_weak (by repeat' constructor) (lp_169_62 hx0 hci _ (-1) (0) (0) s4 (by first | omega | (unfold ra_in at *; omega)) (by first | omega | (unfold ra_in at *; omega)) (by first | omega | (unfold ra_in at *; omega)) (by first | omega | (unfold ra_in at *; omega)) hF5 hci6 (Nat.lt_succ_self _))
      · refine ra_bipush rfl (by decide) ?_
        exact ra_ireturn rfl rfl ⟨Or.inl (⟨_, (by first | omega | (unfold ra_in at *; omega)), rfl⟩), ⟨hF5, hci6⟩⟩
    · exact ra_throw (E := "java/lang/IllegalArgumentException") rfl lk_7_128 (by decide +kernel) (fun _ => rfl) ⟨Or.inr ⟨_, by simp, rfl⟩, ⟨Fr_rf, hci⟩⟩
end CW
