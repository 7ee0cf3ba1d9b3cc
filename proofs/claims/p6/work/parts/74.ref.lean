/-! the reference: what its methods do (printed by wip/gen/ref.py) -/
section RB
theorem lp_195_2 {n : Nat} {f : Nat → Int32} {d : Nat} {x0 : Int} {σ : ra_V} (hx0 : ra_in x0) (hb : 64 ≤ x0 ∧ x0 ≤ 600) : ∀ (nn : Nat) (v2 : Int) (s : ra_V) (hv2_0 : 0 ≤ v2) (hv2_1 : v2 ≤ 688) (hF : Fr (180) (181) σ s) (hc : ∀ a : Nat, (a : Int) < v2 → ra_g s 180 a = 0) (hm : ((688 - v2 : Int)).toNat < nn), ra_P (g_Gs n f) g_sh 0 (d + 0) g_m_X8_clear 2 [some (.index (179)), some (ra_I x0), some (ra_I v2)] [] s (fun r s => rV r ∧ Fr (180) (181) σ s ∧ WF s ∧ (∀ a, a < 88 → a ≠ 0 → a ≠ 3 → a ≠ 4 → a ≠ 16 → ra_g s 180 a = 0)) := by
  intro nn
  induction nn with
  | zero => intro v2 s hv2_0 hv2_1 hF hc hm; exact absurd hm (Nat.not_lt_zero _)
  | succ nn ih =>
    intro v2 s hv2_0 hv2_1 hF hc hm
    refine ra_load rfl rfl rfl rfl ?_
    refine ra_sipush rfl (by decide) ?_
    refine ra_icge rfl rfl (by first | omega | (unfold ra_in at *; omega)) (by first | omega | (unfold ra_in at *; omega)) (fun h1 => ?_) (fun h1 => ?_)
    · refine ra_load rfl rfl rfl rfl ?_
      refine ra_getR rfl lk_8_7 (Nat.zero_le _) sh_179 rfl ?_
      refine ra_iconst rfl ?_
      refine ra_load rfl rfl rfl rfl ?_
      refine ra_iastoreJ (j := 0) rfl sh_180 rfl (by decide) rfl (by decide) ?_
      refine ra_newR hx0 (fun s2 hs2 hs2v hs2o => ?_)
      have hF3 := Fr_tr (lo := 180) (hi := 181) hF hs2 (by omega)
      refine ra_load rfl rfl rfl rfl ?_
      refine ra_getR rfl lk_8_7 (Nat.zero_le _) sh_179 rfl ?_
      refine ra_iconst rfl ?_
      refine ra_iconst rfl ?_
      refine ra_iastoreJ (j := 3) rfl sh_180 rfl (by decide) rfl (by decide) ?_
      refine ra_newR (by first | omega | (unfold ra_in at *; omega)) (fun s4 hs4 hs4v hs4o => ?_)
      have hF5 := Fr_tr (lo := 180) (hi := 181) hF3 hs4 (by omega)
      refine ra_load rfl rfl rfl rfl ?_
      refine ra_getR rfl lk_8_7 (Nat.zero_le _) sh_179 rfl ?_
      refine ra_iconst rfl ?_
      refine ra_iconst rfl ?_
      refine ra_iastoreJ (j := 4) rfl sh_180 rfl (by decide) rfl (by decide) ?_
      refine ra_newR (by first | omega | (unfold ra_in at *; omega)) (fun s6 hs6 hs6v hs6o => ?_)
      have hF7 := Fr_tr (lo := 180) (hi := 181) hF5 hs6 (by omega)
      refine ra_load rfl rfl rfl rfl ?_
      refine ra_getR rfl lk_8_7 (Nat.zero_le _) sh_179 rfl ?_
      refine ra_bipush rfl (by decide) ?_
      refine ra_iconst rfl ?_
      refine ra_iastoreJ (j := 16) rfl sh_180 rfl (by decide) rfl (by decide) ?_
      refine ra_newR (by first | omega | (unfold ra_in at *; omega)) (fun s8 hs8 hs8v hs8o => ?_)
      have hF9 := Fr_tr (lo := 180) (hi := 181) hF7 hs8 (by omega)
      exact ra_return rfl rfl ⟨rfl, ⟨hF9, wf_clear hb ((((hs8o 0 (by decide)).trans (hs6o 0 (by decide))).trans (hs4o 0 (by decide))).trans hs2v) (((hs8o 3 (by decide)).trans (hs6o 3 (by decide))).trans hs4v) ((hs8o 4 (by decide)).trans hs6v) hs8v (fun a h1 h2 h3 h4 h5 => (hs8o a h5).trans ((hs6o a h4).trans ((hs4o a h3).trans ((hs2o a h2).trans (hc a (by omega)))))), (fun a h1 h2 h3 h4 h5 => (hs8o a h5).trans ((hs6o a h4).trans ((hs4o a h3).trans ((hs2o a h2).trans (hc a (by omega))))))⟩⟩
    · refine ra_load rfl rfl rfl rfl ?_
      refine ra_getR rfl lk_8_7 (Nat.zero_le _) sh_179 rfl ?_
      refine ra_load rfl rfl rfl rfl ?_
      refine ra_iconst rfl ?_
      refine ra_iastore rfl sh_180 rfl (by decide) (by first | omega | (unfold ra_in at *; omega)) (by first | omega | (unfold ra_in at *; omega)) ?_
      refine ra_newR (by first | omega | (unfold ra_in at *; omega)) (fun s10 hs10 hs10v hs10o => ?_)
      have hF11 := Fr_tr (lo := 180) (hi := 181) hF hs10 (by omega)
      refine ra_iinc (L' := [_, _, _]) rfl rfl (Nat.le_of_ble_eq_true rfl) rfl ?_
      refine ra_goto rfl rfl ?_
      exact ra_weak (by repeat' constructor) (ih (v2 + 1) s10 (by first | omega | (unfold ra_in at *; omega)) (by first | omega | (unfold ra_in at *; omega)) hF11 (fun a h => if e : a = v2.toNat then (by rw [e]; exact hs10v) else (hs10o a e).trans (hc a (by omega))) (by first | omega | (unfold ra_in at *; omega)))
theorem sp_195 {n : Nat} {f : Nat → Int32} {d : Nat} {x0 : Int} {σ : ra_V} (hx0 : ra_in x0) (hb : 64 ≤ x0 ∧ x0 ≤ 600) : ra_C (g_Gs n f) g_sh 0 (d + 1) 195 [.index (179), ra_I x0] σ (fun r s => rV r ∧ Fr (180) (181) σ s ∧ WF s ∧ (∀ a, a < 88 → a ≠ 0 → a ≠ 3 → a ≠ 4 → a ≠ 16 → ra_g s 180 a = 0)) := by
  refine ra_enter (nn := 1) mt_195 rfl (Nat.le_of_ble_eq_true rfl) rfl (fun h => absurd h (by decide +kernel)) ?_
  refine ra_iconst rfl ?_
  refine ra_store (L' := [_, _, _]) rfl rfl rfl (Nat.le_of_ble_eq_true rfl) rfl ?_
  exact ra_weak (by repeat' constructor) (lp_195_2 hx0 hb _ (0) σ (by first | omega | (unfold ra_in at *; omega)) (by first | omega | (unfold ra_in at *; omega)) Fr_rf (fun a h => by omega) (Nat.lt_succ_self _))
theorem lp_209_3 {n : Nat} {f : Nat → Int32} {d : Nat} {x0 : Int} {x1 : Int} {x2 : Int} {x3 : Int} {σ : ra_V} (hx0 : ra_in x0) (hx1 : ra_in x1) (hx2 : ra_in x2) (hx3 : ra_in x3) (hx : ∃ q, 0 ≤ q ∧ q < 8 ∧ wq σ q 0 ≠ 1) (hn : 0 ≤ x0 ∧ 1 ≤ x1 ∧ x0 + x1 ≤ 600) : ∀ (nn : Nat) (v5 : Int) (hv5_0 : 0 ≤ v5) (hv5_1 : ∀ r, 0 ≤ r → r < v5 → wq σ r 0 = 1) (hm : ((8 - v5 : Int)).toNat < nn), ra_P (g_Gs n f) g_sh 0 (d + 3) g_m_X8_makes 3 [some (.index (179)), some (ra_I x0), some (ra_I x1), some (ra_I x2), some (ra_I x3), some (ra_I v5)] [] σ (fun r s => (∃ z, ra_in z ∧ (MKN σ s z x0 x1 x3) ∧ r = .inl (some (ra_I z))) ∧ Fr (180) (181) σ s) := by
  intro nn
  induction nn with
  | zero => intro v5 hv5_0 hv5_1 hm; exact absurd hm (Nat.not_lt_zero _)
  | succ nn ih =>
    intro v5 hv5_0 hv5_1 hm
    have hv8 : v5 < 8 := free_lt hx hv5_1
    refine ra_load rfl rfl rfl rfl ?_
    refine ra_load rfl rfl rfl rfl ?_
    refine ra_iconst rfl ?_
    refine ra_cTp (sp_199 (by first | omega | (unfold ra_in at *; omega)) (by first | omega | (unfold ra_in at *; omega)) (by first | assumption | rfl | omega)) rfl (ct_199 rfl lk_8_67 (Or.inl rfl) sh_179 (Nat.le_of_ble_eq_true rfl)) ?_
    have hr2 : ra_in (wq σ v5 (0)) := (ra_in_wq _ _ _)
    refine ra_iconst rfl ?_
    refine ra_icne rfl rfl hr2 (by first | omega | (unfold ra_in at *; omega)) (fun h3 => ?_) (fun h3 => ?_)
    · refine ra_load rfl rfl rfl rfl ?_
      refine ra_load rfl rfl rfl rfl ?_
      refine ra_iconst rfl ?_
      refine ra_iconst rfl ?_
      refine ra_cV (sp_200 (by first | omega | (unfold ra_in at *; omega)) (by first | omega | (unfold ra_in at *; omega)) (by first | omega | (unfold ra_in at *; omega)) (by first | assumption | rfl | omega)) rfl (ct_200 rfl lk_8_78 (Or.inl rfl) sh_179 (Nat.le_of_ble_eq_true rfl)) (fun s4 hs4 => ?_)
      obtain ⟨hf5, he6, he7⟩ := hs4
      have hF8 := Fr_tr (lo := 180) (hi := 181) Fr_rf hf5 (by omega)
      refine ra_load rfl rfl rfl rfl ?_
      refine ra_load rfl rfl rfl rfl ?_
      refine ra_iconst rfl ?_
      refine ra_load rfl rfl rfl rfl ?_
      refine ra_cV (sp_200 (by first | omega | (unfold ra_in at *; omega)) (by first | omega | (unfold ra_in at *; omega)) hx0 (by first | assumption | rfl | omega)) rfl (ct_200 rfl lk_8_78 (Or.inl rfl) sh_179 (Nat.le_of_ble_eq_true rfl)) (fun s9 hs9 => ?_)
      obtain ⟨hf10, he11, he12⟩ := hs9
      have hF13 := Fr_tr (lo := 180) (hi := 181) hF8 hf10 (by omega)
      refine ra_load rfl rfl rfl rfl ?_
      refine ra_load rfl rfl rfl rfl ?_
      refine ra_iconst rfl ?_
      refine ra_load rfl rfl rfl rfl ?_
      refine ra_cV (sp_200 (by first | omega | (unfold ra_in at *; omega)) (by first | omega | (unfold ra_in at *; omega)) hx1 (by first | assumption | rfl | omega)) rfl (ct_200 rfl lk_8_78 (Or.inl rfl) sh_179 (Nat.le_of_ble_eq_true rfl)) (fun s14 hs14 => ?_)
      obtain ⟨hf15, he16, he17⟩ := hs14
      have hF18 := Fr_tr (lo := 180) (hi := 181) hF13 hf15 (by omega)
      refine ra_load rfl rfl rfl rfl ?_
      refine ra_load rfl rfl rfl rfl ?_
      refine ra_iconst rfl ?_
      refine ra_load rfl rfl rfl rfl ?_
      refine ra_cV (sp_200 (by first | omega | (unfold ra_in at *; omega)) (by first | omega | (unfold ra_in at *; omega)) hx3 (by first | assumption | rfl | omega)) rfl (ct_200 rfl lk_8_78 (Or.inl rfl) sh_179 (Nat.le_of_ble_eq_true rfl)) (fun s19 hs19 => ?_)
      obtain ⟨hf20, he21, he22⟩ := hs19
      have hF23 := Fr_tr (lo := 180) (hi := 181) hF18 hf20 (by omega)
      refine ra_load rfl rfl rfl rfl ?_
      refine ra_load rfl rfl rfl rfl ?_
      refine ra_iconst rfl ?_
      refine ra_load rfl rfl rfl rfl ?_
      refine ra_cV (sp_200 (by first | omega | (unfold ra_in at *; omega)) (by first | omega | (unfold ra_in at *; omega)) hx2 (by first | assumption | rfl | omega)) rfl (ct_200 rfl lk_8_78 (Or.inl rfl) sh_179 (Nat.le_of_ble_eq_true rfl)) (fun s24 hs24 => ?_)
      obtain ⟨hf25, he26, he27⟩ := hs24
      have hF28 := Fr_tr (lo := 180) (hi := 181) hF23 hf25 (by omega)
      refine ra_load rfl rfl rfl rfl ?_
      refine ra_load rfl rfl rfl rfl ?_
      refine ra_iconst rfl ?_
      refine ra_iconst rfl ?_
      refine ra_cV (sp_200 (by first | omega | (unfold ra_in at *; omega)) (by first | omega | (unfold ra_in at *; omega)) (by first | omega | (unfold ra_in at *; omega)) (by first | assumption | rfl | omega)) rfl (ct_200 rfl lk_8_78 (Or.inl rfl) sh_179 (Nat.le_of_ble_eq_true rfl)) (fun s29 hs29 => ?_)
      obtain ⟨hf30, he31, he32⟩ := hs29
      have hF33 := Fr_tr (lo := 180) (hi := 181) hF28 hf30 (by omega)
      refine ra_load rfl rfl rfl rfl ?_
      refine ra_load rfl rfl rfl rfl ?_
      refine ra_bipush rfl (by decide) ?_
      refine ra_load rfl rfl rfl rfl ?_
      refine ra_getR rfl lk_8_7 (Nat.zero_le _) sh_179 rfl ?_
      refine ra_iconst rfl ?_
      refine ra_ialoadJ (j := 5) rfl sh_180 rfl (by decide) rfl (by decide) ?_
      have hr34 : ra_in (ra_g s29 (180) 5) := (ra_in_g _ _ _)
      refine ra_cV (sp_200 (by first | omega | (unfold ra_in at *; omega)) (by first | omega | (unfold ra_in at *; omega)) hr34 (by first | assumption | rfl | omega)) rfl (ct_200 rfl lk_8_78 (Or.inl rfl) sh_179 (Nat.le_of_ble_eq_true rfl)) (fun s35 hs35 => ?_)
      obtain ⟨hf36, he37, he38⟩ := hs35
      have hF39 := Fr_tr (lo := 180) (hi := 181) hF33 hf36 (by omega)
      refine ra_load rfl rfl rfl rfl ?_
      refine ra_load rfl rfl rfl rfl ?_
      refine ra_bipush rfl (by decide) ?_
      refine ra_iconst rfl ?_
      refine ra_cV (sp_200 (by first | omega | (unfold ra_in at *; omega)) (by first | omega | (unfold ra_in at *; omega)) (by first | omega | (unfold ra_in at *; omega)) (by first | assumption | rfl | omega)) rfl (ct_200 rfl lk_8_78 (Or.inl rfl) sh_179 (Nat.le_of_ble_eq_true rfl)) (fun s40 hs40 => ?_)
      obtain ⟨hf41, he42, he43⟩ := hs40
      have hF44 := Fr_tr (lo := 180) (hi := 181) hF39 hf41 (by omega)
      refine ra_load rfl rfl rfl rfl ?_
      refine ra_getR rfl lk_8_7 (Nat.zero_le _) sh_179 rfl ?_
      refine ra_iconst rfl ?_
      refine ra_dup2 rfl rfl rfl ?_
      refine ra_ialoadJ (j := 5) rfl sh_180 rfl (by decide) rfl (by decide) ?_
      have hr45 : ra_in (ra_g s40 (180) 5) := (ra_in_g _ _ _)
      refine ra_iconst rfl ?_
      refine ra_iadd rfl ?_
      refine ra_gen (fun z46 hz46 => ?_)
      refine ra_iastoreJ (j := 5) rfl sh_180 rfl (by decide) rfl (by decide) ?_
      refine ra_newR hz46 (fun s47 hs47 hs47v hs47o => ?_)
      have hF48 := Fr_tr (lo := 180) (hi := 181) hF44 hs47 (by omega)
      refine ra_load rfl rfl rfl rfl ?_
      refine ra_load rfl rfl rfl rfl ?_
      refine ra_iconst rfl ?_
      refine ra_cV (sp_208 (by first | omega | (unfold ra_in at *; omega)) (by first | omega | (unfold ra_in at *; omega)) (by first | assumption | rfl | omega) (by have := mk_chain (a := x0) (m := x1) (mn := x3) ⟨by omega, by omega, by omega⟩ he6 he7 he11 he12 he16 he17 he21 he22 he27 he32 he38 he43 hs47o SC_rf; obtain ⟨-, -, t1, t2, -⟩ := this; omega) (by first | assumption | rfl | omega)) rfl (ct_208 rfl lk_8_82 (Or.inl rfl) sh_179 (Nat.le_of_ble_eq_true rfl)) (fun s49 hs49 => ?_)
      obtain ⟨hf50, he51⟩ := hs49
      have hF52 := Fr_tr (lo := 180) (hi := 181) hF48 hf50 (by omega)
      refine ra_load rfl rfl rfl rfl ?_
      exact ra_ireturn rfl rfl ⟨⟨_, (by first | omega | (unfold ra_in at *; omega)), (mk_chain ⟨by omega, by omega, by omega⟩ he6 he7 he11 he12 he16 he17 he21 he22 he27 he32 he38 he43 hs47o he51), rfl⟩, hF52⟩
    · refine ra_iinc (L' := [_, _, _, _, _, _]) rfl rfl (Nat.le_of_ble_eq_true rfl) rfl ?_
      refine ra_goto rfl rfl ?_
      exact ra_weak (by repeat' constructor) (ih (v5 + 1) (by first | omega | (unfold ra_in at *; omega)) (fun r a b => if e : r = v5 then (by rw [e]; omega) else hv5_1 r a (by omega)) (by first | omega | (unfold ra_in at *; omega)))
theorem sp_209 {n : Nat} {f : Nat → Int32} {d : Nat} {x0 : Int} {x1 : Int} {x2 : Int} {x3 : Int} {σ : ra_V} (hx0 : ra_in x0) (hx1 : ra_in x1) (hx2 : ra_in x2) (hx3 : ra_in x3) (hx : ∃ q, 0 ≤ q ∧ q < 8 ∧ wq σ q 0 ≠ 1) (hn : 0 ≤ x0 ∧ 1 ≤ x1 ∧ x0 + x1 ≤ 600) : ra_C (g_Gs n f) g_sh 0 (d + 4) 209 [.index (179), ra_I x0, ra_I x1, ra_I x2, ra_I x3] σ (fun r s => (∃ z, ra_in z ∧ (MKN σ s z x0 x1 x3) ∧ r = .inl (some (ra_I z))) ∧ Fr (180) (181) σ s) := by
  refine ra_enter (nn := 1) mt_209 rfl (Nat.le_of_ble_eq_true rfl) rfl (fun h => absurd h (by decide +kernel)) ?_
  refine ra_iconst rfl ?_
  refine ra_store (L' := [_, _, _, _, _, _]) rfl rfl rfl (Nat.le_of_ble_eq_true rfl) rfl ?_
  exact ra_weak (by repeat' constructor) (lp_209_3 hx0 hx1 hx2 hx3 hx hn _ (0) (by first | omega | (unfold ra_in at *; omega)) (fun r a b => by omega) (Nat.lt_succ_self _))
theorem sp_303 {n : Nat} {f : Nat → Int32} {d : Nat} {x0 : Int} {x1 : Int} {σ : ra_V} (hx0 : ra_in x0) (hx1 : ra_in x1) (hp : 0 ≤ x0 ∧ x0 < 8) (hn : 0 ≤ wq σ x0 1 ∧ wq σ x0 1 + x1 ≤ 600 ∧ 0 ≤ wq σ x0 2) : ra_C (g_Gs n f) g_sh 0 (d + 4) 303 [.index (179), ra_I x0, ra_I x1] σ (fun r s => rV r ∧ Fr (180) (181) σ s ∧ RSZ σ s x0 x1) := by
  refine ra_enter (nn := 1) mt_303 rfl (Nat.le_of_ble_eq_true rfl) rfl (fun h => absurd h (by decide +kernel)) ?_
  refine ra_load rfl rfl rfl rfl ?_
  refine ra_load rfl rfl rfl rfl ?_
  refine ra_iconst rfl ?_
  refine ra_cTp (sp_199 hx0 (by first | omega | (unfold ra_in at *; omega)) (by first | assumption | rfl | omega)) rfl (ct_199 rfl lk_8_67 (Or.inl rfl) sh_179 (Nat.le_of_ble_eq_true rfl)) ?_
  have hr2 : ra_in (wq σ x0 (2)) := (ra_in_wq _ _ _)
  refine ra_store (L' := [_, _, _, _]) rfl rfl rfl (Nat.le_of_ble_eq_true rfl) rfl ?_
  refine ra_load rfl rfl rfl rfl ?_
  refine ra_load rfl rfl rfl rfl ?_
  refine ra_iconst rfl ?_
  refine ra_load rfl rfl rfl rfl ?_
  refine ra_cV (sp_200 hx0 (by first | omega | (unfold ra_in at *; omega)) hx1 (by first | assumption | rfl | omega)) rfl (ct_200 rfl lk_8_78 (Or.inl rfl) sh_179 (Nat.le_of_ble_eq_true rfl)) (fun s3 hs3 => ?_)
  obtain ⟨hf4, he5, he6⟩ := hs3
  have hF7 := Fr_tr (lo := 180) (hi := 181) Fr_rf hf4 (by omega)
  refine ra_load rfl rfl rfl rfl ?_
  refine ra_load rfl rfl rfl rfl ?_
  refine ra_load rfl rfl rfl rfl ?_
  refine ra_cV (sp_208 hx0 hr2 (by first | assumption | rfl | omega) (by have t1 := he5; have t2 : wq s3 x0 1 = wq σ x0 1 := he6 _ (by omega); omega) (by first | assumption | rfl | omega)) rfl (ct_208 rfl lk_8_82 (Or.inl rfl) sh_179 (Nat.le_of_ble_eq_true rfl)) (fun s8 hs8 => ?_)
  obtain ⟨hf9, he10⟩ := hs8
  have hF11 := Fr_tr (lo := 180) (hi := 181) hF7 hf9 (by omega)
  exact ra_return rfl rfl ⟨rfl, ⟨hF11, rsz_ch hp he5 he6 he10⟩⟩
end RB
