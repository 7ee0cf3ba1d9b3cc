/-! T5: what the reference changes (printed by wip/gen/r6.py) -/
section
theorem s6_203 {n : Nat} {f : Nat → Int32} {d : Nat}  {σ : ra_V} (hw : WF σ) : ra_C (g_Gs n f) g_sh 0 (d + 2) 203 [.index (179)] σ (fun r9 s => (∃ z, ra_in z ∧ ((0 ≤ z ∧ z ≤ 8 ∧ (z < 8 → ∃ p, 0 ≤ p ∧ p < 8 ∧ wq σ p 0 = 0)) ∧ (z = ct σ (-1))) ∧ r9 = .inl (some (ra_I z))) ∧ s = σ) := ra_C_mono (sq_203 hw) (fun r s h => by obtain ⟨⟨z, hz, e, er⟩, hs⟩ := h; exact ⟨⟨z, hz, ⟨by rw [e]; exact x5pm_old hw, e⟩, er⟩, hs⟩) (Nat.le_refl _)
theorem s6_216 {n : Nat} {f : Nat → Int32} {d : Nat} {x0 : Int} {x1 : Int} {σ : ra_V} (hx0 : ra_in x0) (hx1 : ra_in x1) (hw : WFa σ) : ra_C (g_Gs n f) g_sh 0 (d + 4) 216 [.index (179), ra_I x0, ra_I x1] σ (fun r9 s => (∃ z, ra_in z ∧ ((z = 0 → (US σ x0 x1 ∧ ¬ TK σ x0 x1 (-1) ∧ ¬ BT σ x0 x1)) ∧ (z = x5why σ x0 x1)) ∧ r9 = .inl (some (ra_I z))) ∧ s = σ) := ra_C_mono (s5_216 hx0 hx1 hw) (fun r s h => ⟨⟨_, x5why_in, ⟨x5wn_old, rfl⟩, h.1⟩, h.2⟩) (Nat.le_refl _)
theorem s6_302 {n : Nat} {f : Nat → Int32} {d : Nat} {x0 : Int} {x1 : Int} {σ : ra_V} (hx0 : ra_in x0) (hx1 : ra_in x1) (hw : WF σ) (hp : 0 ≤ x0 ∧ x0 < 8 ∧ wq σ x0 0 = 1) : ra_C (g_Gs n f) g_sh 0 (d + 5) 302 [.index (179), ra_I x0, ra_I x1] σ (fun r9 s => (∃ z, ra_in z ∧ ((z = 0 → (wq σ x0 5 ≠ 1 ∧ ra_g σ 180 16 ≠ x0 ∧ SZK σ x0 x1)) ∧ (z = x5whyR σ x0 x1)) ∧ r9 = .inl (some (ra_I z))) ∧ s = σ) := ra_C_mono (s5_302 hx0 hx1 hw hp) (fun r s h => ⟨⟨_, x5whyR_in, ⟨x5whyR_old, rfl⟩, h.1⟩, h.2⟩) (Nat.le_refl _)
theorem s6_224 {n : Nat} {f : Nat → Int32} {d : Nat} {x0 : Int} {x1 : Int} {σ : ra_V} (hx0 : ra_in x0) (hx1 : ra_in x1) (hw : WF σ) (hp : 0 ≤ x0 ∧ x0 < 8 ∧ wq σ x0 0 = 1) : ra_C (g_Gs n f) g_sh 0 (d + 4) 224 [.index (179), ra_I x0, ra_I x1] σ (fun r9 s => (∃ z, ra_in z ∧ ((z = 0 → MOK σ x0 x1) ∧ (z = x5whyM σ x0 x1 (ra_g σ 180 4))) ∧ r9 = .inl (some (ra_I z))) ∧ s = σ) := ra_C_mono (s5_224 hx0 hx1 hw hp) (fun r s h => ⟨⟨_, x5whyM_in, ⟨x5whyM_old, rfl⟩, h.1⟩, h.2⟩) (Nat.le_refl _)
theorem s6_223 {n : Nat} {f : Nat → Int32} {d : Nat} {x0 : Int} {x1 : Int} {x2 : Int} {σ : ra_V} (hx0 : ra_in x0) (hx1 : ra_in x1) (hx2 : ra_in x2) (hw : WFa σ) (hp : -1 ≤ x0 ∧ x0 < 8 ∧ 1 ≤ x2) : ra_C (g_Gs n f) g_sh 0 (d + 3) 223 [.index (179), ra_I x0, ra_I x1, ra_I x2] σ (fun r9 s => (∃ z, ra_in z ∧ (((z = -1 ∨ (0 ≤ z ∧ z + x2 ≤ 600)) ∧ (z = -1 → ¬ SCE σ x0 x1 x2) ∧ (z ≠ -1 → SCE σ x0 x1 x2)) ∧ (x5SCG σ x0 x1 x2 z)) ∧ r9 = .inl (some (ra_I z))) ∧ s = σ) := ra_C_mono (s5_223 hx0 hx1 hx2 hw hp) (fun r s h => by obtain ⟨⟨z, hz, e, er⟩, hs⟩ := h; exact ⟨⟨z, hz, ⟨x5sc_old hw (by omega) e, e⟩, er⟩, hs⟩) (Nat.le_refl _)
theorem s5_194 {n : Nat} {f : Nat → Int32} {d : Nat} {x0 : Int} {x1 : Int} {σ : ra_V} (hx0 : x0 = 0 ∨ x0 = 1) (hx1 : ra_in x1) : ra_C (g_Gs n f) g_sh 0 (d + 1) 194 [.index (179), ra_I x0, ra_I x1] σ (fun r9 s => r9 = .inl (some (ra_I (x0))) ∧ Fr (179) (180) σ s ∧ (∀ a, a ≠ 7 → ra_g s 179 a = ra_g σ 179 a) ∧ x5HID ((x0 = 1 → ra_g s 179 7 = x1) ∧ (x0 = 0 → ra_g s 179 7 = ra_g σ 179 7))) := by
  refine ra_enter (nn := 0) mt_194 rfl (Nat.le_of_ble_eq_true rfl) rfl (fun h => absurd h (by decide +kernel)) ?_
  refine ra_load rfl rfl rfl rfl ?_
  refine ra_ifeq rfl rfl (ra_in01 hx0) (fun h1 => ?_) (fun h1 => ?_)
  · refine ra_load rfl rfl rfl rfl ?_
    exact ra_ireturn rfl (ra_okB hx0) ⟨(congrArg (fun z => Sum.inl (some (ra_I z))) (by first | rfl | omega)), ⟨Fr_rf, fun _ _ => rfl, x5hid ⟨fun q => by omega, fun _ => rfl⟩⟩⟩
  · refine ra_load rfl rfl rfl rfl ?_
    refine ra_load rfl rfl rfl rfl ?_
    refine ra_putI rfl lk_8_51 (Nat.zero_le _) sh_179 rfl rfl ?_
    refine ra_newU hx1 (fun s2 hs2 hp6 hp6o => ?_)
    have hF3 := Fr_tr (lo := 179) (hi := 180) Fr_rf hs2 (by omega)
    refine ra_load rfl rfl rfl rfl ?_
    exact ra_ireturn rfl (ra_okB hx0) ⟨(congrArg (fun z => Sum.inl (some (ra_I z))) (by first | rfl | omega)), ⟨hF3, hp6o, x5hid ⟨fun _ => hp6, fun q => by omega⟩⟩⟩
theorem s5_268 {n : Nat} {f : Nat → Int32} {d : Nat} {x0 : Int} {x1 : Int} {σ : ra_V} (hx0 : ra_in x0) (hx1 : ra_in x1) : ra_C (g_Gs n f) g_sh 0 (d + 3) 268 [.index (179), ra_I x0, ra_I x1] σ (fun r9 s => (∃ z : Int, (z = 0 ∨ z = 1) ∧ ((z = 0 → (0 ≤ x0 ∧ x0 < 8 ∧ wq σ x0 0 = 1)) ∧ x5HID ((z = 1 → ¬ (0 ≤ x0 ∧ x0 < 8 ∧ wq σ x0 0 = 1)) ∧ (z = 1 → ra_g s 179 7 = x1) ∧ (z = 0 → ra_g s 179 7 = ra_g σ 179 7))) ∧ r9 = .inl (some (ra_I z))) ∧ Fr (179) (180) σ s ∧ (∀ a, a ≠ 7 → ra_g s 179 a = ra_g σ 179 a)) := by
  refine ra_enter (nn := 0) mt_268 rfl (Nat.le_of_ble_eq_true rfl) rfl (fun h => absurd h (by decide +kernel)) ?_
  refine ra_load rfl rfl rfl rfl ?_
  refine ra_load rfl rfl rfl rfl ?_
  refine ra_load rfl rfl rfl rfl ?_
  refine ra_cQPp (sp_202 hx0) rfl (ct_202 rfl lk_8_313 (Or.inl rfl) sh_179 (Nat.le_of_ble_eq_true rfl)) (fun z2 hz2 hz2p => ?_)
  refine ra_ifne rfl rfl (ra_in01 hz2) (fun h3 => ?_) (fun h3 => ?_)
  · refine ra_iconst rfl ?_
    refine ra_load rfl rfl rfl rfl ?_
    refine ra_cT (s5_194 (Or.inl rfl) hx1) rfl (ct_194 rfl lk_8_303 (Or.inl rfl) sh_179 (Nat.le_of_ble_eq_true rfl)) (fun s4 hs4 => ?_)
    obtain ⟨hf5, he6, he7⟩ := hs4
    have hF8 := Fr_tr (lo := 179) (hi := 180) Fr_rf hf5 (by omega)
    exact ra_ireturn rfl (ra_okB (Or.inl rfl)) ⟨⟨_, (Or.inl rfl), ⟨fun _ => hz2p.mp (by omega), x5hid ⟨fun q => absurd q (by decide), fun q => absurd q (by decide), fun _ => he7.2 rfl⟩⟩, rfl⟩, ⟨hF8, he6⟩⟩
  · refine ra_iconst rfl ?_
    refine ra_goto rfl rfl ?_
    refine ra_load rfl rfl rfl rfl ?_
    refine ra_cT (s5_194 (Or.inr rfl) hx1) rfl (ct_194 rfl lk_8_303 (Or.inl rfl) sh_179 (Nat.le_of_ble_eq_true rfl)) (fun s9 hs9 => ?_)
    obtain ⟨hf10, he11, he12⟩ := hs9
    have hF13 := Fr_tr (lo := 179) (hi := 180) Fr_rf hf10 (by omega)
    exact ra_ireturn rfl (ra_okB (Or.inr rfl)) ⟨⟨_, (Or.inr rfl), ⟨fun q => absurd q (by decide), x5hid ⟨fun _ q => absurd (hz2p.mpr q) (by omega), fun _ => he12.1 rfl, fun q => absurd q (by decide)⟩⟩, rfl⟩, ⟨hF13, he11⟩⟩
theorem s5_206 {n : Nat} {f : Nat → Int32} {d : Nat} {x0 : Int} {σ : ra_V} (hx0 : ra_in x0) (hp : -1 ≤ x0 ∧ x0 < 8) : ra_C (g_Gs n f) g_sh 0 (d + 2) 206 [.index (179), ra_I x0] σ (fun r9 s => (∃ z : Int, (z = 0 ∨ z = 1) ∧ ((z = 0 → (wq σ x0 5 ≠ 1 ∧ ra_g σ 180 16 ≠ x0)) ∧ (z = 1 → x5FX σ x0)) ∧ r9 = .inl (some (ra_I z))) ∧ s = σ) := by
  refine ra_enter (nn := 0) mt_206 rfl (Nat.le_of_ble_eq_true rfl) rfl (fun h => absurd h (by decide +kernel)) ?_
  refine ra_load rfl rfl rfl rfl ?_
  refine ra_load rfl rfl rfl rfl ?_
  refine ra_iconst rfl ?_
  refine ra_cTp (sp_200 hx0 (by first | omega | (unfold ra_in at *; omega)) (by first | assumption | rfl | omega)) rfl (ct_200 rfl lk_8_67 (Or.inl rfl) sh_179 (Nat.le_of_ble_eq_true rfl)) ?_
  have hr2 : ra_in (wq σ x0 (5)) := (ra_in_wq _ _ _)
  refine ra_iconst rfl ?_
  refine ra_iceq rfl rfl hr2 (by first | omega | (unfold ra_in at *; omega)) (fun h3 => ?_) (fun h3 => ?_)
  · refine ra_iconst rfl ?_
    refine ra_goto rfl rfl ?_
    exact ra_ireturn rfl (ra_okB (Or.inr rfl)) ⟨⟨_, (Or.inr rfl), ⟨fun q => absurd q (by decide), fun _ => by unfold x5FX; omega⟩, rfl⟩, rfl⟩
  · refine ra_load rfl rfl rfl rfl ?_
    refine ra_load rfl rfl rfl rfl ?_
    refine ra_cQPp (sp_205 hx0) rfl (ct_205 rfl lk_8_71 (Or.inl rfl) sh_179 (Nat.le_of_ble_eq_true rfl)) (fun z5 hz5 hz5p => ?_)
    refine ra_ifeq rfl rfl (ra_in01 hz5) (fun h6 => ?_) (fun h6 => ?_)
    · refine ra_iconst rfl ?_
      exact ra_ireturn rfl (ra_okB (Or.inl rfl)) ⟨⟨_, (Or.inl rfl), ⟨fun _ => by have q8 := hz5p; exact ⟨by omega, by omega⟩, fun q => absurd q (by decide)⟩, rfl⟩, rfl⟩
    · refine ra_iconst rfl ?_
      refine ra_goto rfl rfl ?_
      exact ra_ireturn rfl (ra_okB (Or.inr rfl)) ⟨⟨_, (Or.inr rfl), ⟨fun q => absurd q (by decide), fun _ => by have q8 := hz5p; unfold x5FX; omega⟩, rfl⟩, rfl⟩
theorem s5_296 {n : Nat} {f : Nat → Int32} {d : Nat} {x0 : Int} {x1 : Int} {x2 : Int} {σ : ra_V} (hx0 : ra_in x0) (hx1 : ra_in x1) (hx2 : ra_in x2) : ra_C (g_Gs n f) g_sh 0 (d + 2) 296 [ra_I x0, ra_I x1, ra_I x2] σ (fun r9 s => (∃ z : Int, (z = 0 ∨ z = 1) ∧ ((z = 1 → (0 ≤ x0 ∧ x0 ≤ 9 ∧ 1 ≤ x1 ∧ x1 ≤ x2)) ∧ (z = 0 → ¬ x5TLD x0 x1 x2)) ∧ r9 = .inl (some (ra_I z))) ∧ s = σ) := by
  refine ra_enter (nn := 0) mt_296 rfl (Nat.le_of_ble_eq_true rfl) rfl (fun h => absurd h (by decide +kernel)) ?_
  refine ra_load rfl rfl rfl rfl ?_
  refine ra_i2l rfl hx0 ?_
  refine ra_lconst0 rfl ?_
  refine ra_ldc2 (z := 9) rfl lk_8_361 (by decide) ?_
  refine ra_cTp (sp_193 hx0 (by first | omega | (unfold ra_in at *; omega)) (by first | omega | (unfold ra_in at *; omega))) rfl (ct_193 rfl lk_8_63 (Or.inl rfl) (Nat.le_of_ble_eq_true rfl)) ?_
  refine ra_ifeqB rfl rfl (fun h2 => ?_) (fun h2 => ?_)
  · refine ra_iconst rfl ?_
    exact ra_ireturn rfl (ra_okB (Or.inl rfl)) ⟨⟨_, (Or.inl rfl), (⟨by omega, by unfold x5TLD; omega⟩), rfl⟩, rfl⟩
  · refine ra_load rfl rfl rfl rfl ?_
    refine ra_i2l rfl hx1 ?_
    refine ra_lconst1 rfl ?_
    refine ra_load rfl rfl rfl rfl ?_
    refine ra_i2l rfl hx2 ?_
    refine ra_cTp (sp_193 hx1 (by first | omega | (unfold ra_in at *; omega)) hx2) rfl (ct_193 rfl lk_8_63 (Or.inl rfl) (Nat.le_of_ble_eq_true rfl)) ?_
    refine ra_ifeqB rfl rfl (fun h4 => ?_) (fun h4 => ?_)
    · refine ra_iconst rfl ?_
      exact ra_ireturn rfl (ra_okB (Or.inl rfl)) ⟨⟨_, (Or.inl rfl), (⟨by omega, by unfold x5TLD; omega⟩), rfl⟩, rfl⟩
    · refine ra_iconst rfl ?_
      refine ra_goto rfl rfl ?_
      exact ra_ireturn rfl (ra_okB (Or.inr rfl)) ⟨⟨_, (Or.inr rfl), (⟨by omega, by unfold x5TLD; omega⟩), rfl⟩, rfl⟩
theorem s5_293 {n : Nat} {f : Nat → Int32} {d : Nat} {x0 : Int} {σ : ra_V} (hx0 : ra_in x0) (hw : WF σ) (hp : 0 ≤ x0 ∧ x0 < 8) : ra_C (g_Gs n f) g_sh 0 (d + 3) 293 [.index (179), ra_I x0] σ (fun r9 s => (∃ z, ra_in z ∧ ((z = 0 ∨ (z = wq σ x0 2 - wq σ x0 3 ∧ wq σ x0 0 = 1 ∧ ra_g σ 180 16 ≠ x0)) ∧ (z = x5cif (x5frP σ x0) (wq σ x0 2 - wq σ x0 3) 0)) ∧ r9 = .inl (some (ra_I z))) ∧ s = σ) := by
  refine ra_enter (nn := 0) mt_293 rfl (Nat.le_of_ble_eq_true rfl) rfl (fun h => absurd h (by decide +kernel)) ?_
  refine ra_load rfl rfl rfl rfl ?_
  refine ra_load rfl rfl rfl rfl ?_
  refine ra_iconst rfl ?_
  refine ra_cTp (sp_200 hx0 (by first | omega | (unfold ra_in at *; omega)) (by first | assumption | rfl | omega)) rfl (ct_200 rfl lk_8_67 (Or.inl rfl) sh_179 (Nat.le_of_ble_eq_true rfl)) ?_
  have hr2 : ra_in (wq σ x0 (0)) := (ra_in_wq _ _ _)
  refine ra_iconst rfl ?_
  refine ra_icne rfl rfl hr2 (by first | omega | (unfold ra_in at *; omega)) (fun h3 => ?_) (fun h3 => ?_)
  · refine ra_iconst rfl ?_
    exact ra_ireturn rfl rfl ⟨⟨_, (by first | omega | (unfold ra_in at *; omega)), ⟨Or.inl rfl, (x5cif_n (fun q => by obtain ⟨q1, q2, q3⟩ := q; omega)).symm⟩, rfl⟩, rfl⟩
  · refine ra_load rfl rfl rfl rfl ?_
    refine ra_load rfl rfl rfl rfl ?_
    refine ra_cQPp (s5_206 hx0 (by first | assumption | rfl | omega)) rfl (ct_206 rfl lk_8_355 (Or.inl rfl) sh_179 (Nat.le_of_ble_eq_true rfl)) (fun z5 hz5 hz5p => ?_)
    have hz5o := hz5p.1
    have hz5q := hz5p.2
    clear hz5p
    refine ra_ifne rfl rfl (ra_in01 hz5) (fun h6 => ?_) (fun h6 => ?_)
    · refine ra_iconst rfl ?_
      exact ra_ireturn rfl rfl ⟨⟨_, (by first | omega | (unfold ra_in at *; omega)), ⟨Or.inl rfl, (x5cif_n (fun q => by obtain ⟨q1, q2, q3⟩ := q; have q8 := hz5q (by omega); unfold x5FX at q8; omega)).symm⟩, rfl⟩, rfl⟩
    · refine ra_load rfl rfl rfl rfl ?_
      refine ra_load rfl rfl rfl rfl ?_
      refine ra_iconst rfl ?_
      refine ra_cTp (sp_200 hx0 (by first | omega | (unfold ra_in at *; omega)) (by first | assumption | rfl | omega)) rfl (ct_200 rfl lk_8_67 (Or.inl rfl) sh_179 (Nat.le_of_ble_eq_true rfl)) ?_
      have hr8 : ra_in (wq σ x0 (2)) := (ra_in_wq _ _ _)
      refine ra_load rfl rfl rfl rfl ?_
      refine ra_load rfl rfl rfl rfl ?_
      refine ra_iconst rfl ?_
      refine ra_cTp (sp_200 hx0 (by first | omega | (unfold ra_in at *; omega)) (by first | assumption | rfl | omega)) rfl (ct_200 rfl lk_8_67 (Or.inl rfl) sh_179 (Nat.le_of_ble_eq_true rfl)) ?_
      have hr10 : ra_in (wq σ x0 (3)) := (ra_in_wq _ _ _)
      have hq := WF_p hw hp.1 hp.2 (by omega)
      refine ra_isub rfl ?_
      refine ra_goto rfl rfl ?_
      exact ra_ireturn rfl rfl ⟨⟨_, (by first | omega | (unfold ra_in at *; omega)), ⟨Or.inr ⟨rfl, by omega, (hz5o (by omega)).2⟩, (x5cif_y (show x5frP σ x0 from ⟨by omega, (hz5o (by omega)).1, (hz5o (by omega)).2⟩)).symm⟩, rfl⟩, rfl⟩
end
