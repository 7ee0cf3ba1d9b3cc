/-! T5: the class's calls that change something (printed by wip/gen/c7.py) -/
section
variable {τ : ra_V} {nh : Int} {R : Nat → ra_V}
theorem s5_172 {n : Nat} {f : Nat → Int32} {d : Nat}  {σ : ra_V} (hH : x5HQ nh R σ) : ra_C (g_Gs n f) g_sh 0 (d + 4) 172 [.index (0)] σ (fun r s => r = .inl (some (ra_I (nh - 1))) ∧ (0 < nh → x5CT (R (nh - 1).toNat) s 1 ∧ x5HQ (nh - 1) R s) ∧ (¬ 0 < nh → s = σ) ∧ (∀ c : Nat, (c = 0 ∨ (27 ≤ c ∧ c < 40) ∨ 175 ≤ c) → s c = σ c)) := by
  refine ra_enter (nn := 0) mt_172 rfl (Nat.le_of_ble_eq_true rfl) rfl (fun h => absurd h (by decide +kernel)) ?_
  have hn9 := hH.2.1
  refine ra_load rfl rfl rfl rfl ?_
  refine ra_getR rfl lk_7_25 (Nat.zero_le _) sh_0 rfl ?_
  refine ra_load rfl rfl rfl rfl ?_
  refine ra_getR rfl lk_7_10 (Nat.zero_le _) sh_0 rfl ?_
  refine ra_cQP (s5_63 isD_1 rfl (by first | assumption | rfl | omega)) rfl (ct_63 rfl lk_7_432 (Or.inl rfl) sh_40 (Nat.le_of_ble_eq_true rfl)) (fun z2 s1 hz2 hz2p hs1 => ?_)
  obtain ⟨hf3, he4, he5, he6⟩ := hs1
  have hF7 := Fr_tr (lo := 1) (hi := 175) Fr_rf hf3 (by omega)
  refine ra_ifeq rfl rfl (ra_in01 hz2) (fun h8 => ?_) (fun h8 => ?_)
  · refine ra_iconst rfl ?_
    exact ra_ireturn rfl rfl ⟨congrArg (fun z => Sum.inl (some (ra_I z))) (show (-1) = nh - 1 from (by omega)), he4, he5, fun c c1 => he6 c (by omega)⟩
  · refine ra_load rfl rfl rfl rfl ?_
    refine ra_getR rfl lk_7_25 (Nat.zero_le _) sh_0 rfl ?_
    refine ra_getI rfl lk_7_125 (Nat.zero_le _) sh_40 rfl ?_
    have hr9 : ra_in (ra_g s1 (40) 2) := (ra_in_g _ _ _)
    refine ra_goto rfl rfl ?_
    exact ra_ireturn rfl rfl ⟨congrArg (fun z => Sum.inl (some (ra_I z))) (show (ra_g s1 (40) 2) = nh - 1 from (by have q9 := (he4 (by omega)).2.1; omega)), he4, he5, fun c c1 => he6 c (by omega)⟩
theorem s5_173 {n : Nat} {f : Nat → Int32} {d : Nat}  {σ : ra_V} (hT : x5CT τ σ 1) (hW : x5W2 τ) : ra_C (g_Gs n f) g_sh 0 (d + 3) 173 [.index (0)] σ (fun r s => r = .inl (some (ra_I (ct τ (-1)))) ∧ x5CT τ s 27 ∧ ra_g s 0 3 = 1 ∧ (∀ c, c ≠ 0 → (c < 27 ∨ 40 ≤ c) → s c = σ c)) := by
  refine ra_enter (nn := 0) mt_173 rfl (Nat.le_of_ble_eq_true rfl) rfl (fun h => absurd h (by decide +kernel)) ?_
  refine ra_load rfl rfl rfl rfl ?_
  refine ra_getR rfl lk_7_19 (Nat.zero_le _) sh_0 rfl ?_
  refine ra_load rfl rfl rfl rfl ?_
  refine ra_getR rfl lk_7_10 (Nat.zero_le _) sh_0 rfl ?_
  refine ra_cV (s5_2 isD_27 isD_1 (by omega)) rfl (ct_2 rfl lk_7_69 (Or.inl rfl) (sh_D isD_27) (Nat.le_of_ble_eq_true rfl)) (fun s1 hs1 => ?_)
  obtain ⟨hf2, he3⟩ := hs1
  have hF4 := Fr_tr (lo := 0) (hi := 40) Fr_rf hf2 (by omega)
  refine ra_load rfl rfl rfl rfl ?_
  refine ra_iconst rfl ?_
  refine ra_putB rfl lk_7_76 (Nat.zero_le _) sh_0 rfl rfl (Or.inr rfl) ?_
  refine ra_newU (ra_in01 (Or.inr rfl)) (fun s5 hs5 hp6 hp6o => ?_)
  have hF7 := Fr_tr (lo := 0) (hi := 40) hF4 hs5 (by omega)
  refine ra_load rfl rfl rfl rfl ?_
  refine ra_getR rfl lk_7_10 (Nat.zero_le _) sh_0 rfl ?_
  refine ra_cTp (s5_4 isD_1 (x5CT_e4 (fun c c1 c2 c3 c4 => ((hs5 c (by omega)).trans (hf2 c (by omega)))) hT) hW) rfl (ct_4 rfl lk_7_83 (Or.inl rfl) (sh_D isD_1) (Nat.le_of_ble_eq_true rfl)) ?_
  have hf9 := ct_b (σ := τ) (c := -1)
  have hr10 : ra_in (ct τ (-1)) := (by have := ct_b (σ := τ) (c := -1); unfold ra_in; omega)
  exact ra_ireturn rfl rfl ⟨rfl, (x5CT_e4 (fun c c1 c2 c3 c4 => (hs5 c (by omega))) (x5ct_dc he3 hT hW)), hp6, (fun c c1 c2 => ((hs5 c (by omega)).trans (hf2 c (by omega))))⟩
theorem s5_174 {n : Nat} {f : Nat → Int32} {d : Nat}  {σ : ra_V} (hS : ra_g σ 0 3 ≠ 0 → x5CT τ σ 27 ∧ x5W2 τ) (hH : x5HQ nh R σ) : ra_C (g_Gs n f) g_sh 0 (d + 6) 174 [.index (0)] σ (fun r s => (∀ c : Nat, (c = 0 ∨ (27 ≤ c ∧ c < 40) ∨ 175 ≤ c) → s c = σ c) ∧ ((ra_g σ 0 3 ≠ 0 ∧ r = .inl (some (ra_I (ct τ (-1)))) ∧ x5CT τ s 1 ∧ ∀ R2, x5HQ 0 R2 s) ∨ (ra_g σ 0 3 = 0 ∧ r = .inr "java/lang/IllegalStateException" ∧ s = σ))) := by
  refine ra_enter (nn := 0) mt_174 rfl (Nat.le_of_ble_eq_true rfl) rfl (fun _ => by omega) ?_
  refine ra_load rfl rfl rfl rfl ?_
  refine ra_getB rfl lk_7_76 (Nat.zero_le _) sh_0 rfl ?_
  refine x5gz_ (fun z1 hz1 hz1i => ?_)
  refine ra_ifne rfl rfl (ra_in01 hz1) (fun h2 => ?_) (fun h2 => ?_)
  · have hsv : ra_g σ 0 3 ≠ 0 := hz1i.mp (by omega)
    refine ra_load rfl rfl rfl rfl ?_
    refine ra_getR rfl lk_7_10 (Nat.zero_le _) sh_0 rfl ?_
    refine ra_load rfl rfl rfl rfl ?_
    refine ra_getR rfl lk_7_19 (Nat.zero_le _) sh_0 rfl ?_
    refine ra_cV (s5_2 isD_1 isD_27 (by omega)) rfl (ct_2 rfl lk_7_69 (Or.inl rfl) (sh_D isD_1) (Nat.le_of_ble_eq_true rfl)) (fun s3 hs3 => ?_)
    obtain ⟨hf4, he5⟩ := hs3
    have hF6 := Fr_tr (lo := 1) (hi := 41) Fr_rf hf4 (by omega)
    refine ra_load rfl rfl rfl rfl ?_
    refine ra_getR rfl lk_7_25 (Nat.zero_le _) sh_0 rfl ?_
    refine ra_cV (s5_64 (x5hq_k (fun c c1 c2 => (hf4 c (by omega))) hH)) rfl (ct_64 rfl lk_7_73 (Or.inl rfl) sh_40 (Nat.le_of_ble_eq_true rfl)) (fun s7 hs7 => ?_)
    obtain ⟨hf8, he9⟩ := hs7
    have hF10 := Fr_tr (lo := 1) (hi := 41) hF6 hf8 (by omega)
    refine ra_load rfl rfl rfl rfl ?_
    refine ra_getR rfl lk_7_10 (Nat.zero_le _) sh_0 rfl ?_
    refine ra_cTp (s5_4 isD_1 (x5CT_e4 (fun c c1 c2 c3 c4 => (hf8 c (by omega))) (x5ct_dc he5 (hS hsv).1 (hS hsv).2)) (hS hsv).2) rfl (ct_4 rfl lk_7_83 (Or.inl rfl) (sh_D isD_1) (Nat.le_of_ble_eq_true rfl)) ?_
    have hf12 := ct_b (σ := τ) (c := -1)
    have hr13 : ra_in (ct τ (-1)) := (by have := ct_b (σ := τ) (c := -1); unfold ra_in; omega)
    exact ra_ireturn rfl rfl ⟨(fun c c1 => ((hf8 c (by omega)).trans (hf4 c (by omega)))), Or.inl ⟨hsv, rfl, (x5CT_e4 (fun c c1 c2 c3 c4 => (hf8 c (by omega))) (x5ct_dc he5 (hS hsv).1 (hS hsv).2)), he9⟩⟩
  · exact ra_throw (E := "java/lang/IllegalStateException") rfl lk_7_267 (by decide +kernel) (fun _ => rfl) ⟨fun _ _ => rfl, Or.inr ⟨by have q9 := hz1i; omega, rfl, rfl⟩⟩
end
