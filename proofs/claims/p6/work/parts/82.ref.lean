/-! the reference: what its methods do (printed by wip/gen/ref.py) -/
section RB
theorem sp_239 {n : Nat} {f : Nat → Int32} {d : Nat} {x0 : Int} {x1 : Int} {σ : ra_V} (hx0 : ra_in x0) (hx1 : ra_in x1) (hw : WF σ) (hp : 0 ≤ x0 ∧ x0 < 8 ∧ wq σ x0 0 = 1) (hk : MOK σ x0 x1) : ra_C (g_Gs n f) g_sh 0 (d + 4) 239 [.index (179), ra_I x0, ra_I x1] σ (fun r s => rV r ∧ Fr (180) (181) σ s ∧ WF s ∧ ra_g s 180 16 = x0 ∧ ∀ p, 0 ≤ p → p < 8 → wq s p 0 = wq σ p 0) := by
  refine ra_enter (nn := 2) mt_239 rfl (Nat.le_of_ble_eq_true rfl) rfl (fun h => absurd h (by decide +kernel)) ?_
  have hw0 := WF_a hw
  unfold WFa at hw0
  have hq := WF_p hw hp.1 hp.2.1 hp.2.2
  have hu := hk.2.2.1
  unfold US at hu
  refine ra_load rfl rfl rfl rfl ?_
  refine ra_getR rfl lk_8_7 (Nat.zero_le _) sh_179 rfl ?_
  refine ra_iconst rfl ?_
  refine ra_ialoadJ (j := 4) rfl sh_180 rfl (by decide) rfl (by decide) ?_
  have hr1 : ra_in (ra_g σ (180) 4) := (ra_in_g _ _ _)
  refine ra_load rfl rfl rfl rfl ?_
  refine ra_load rfl rfl rfl rfl ?_
  refine ra_iconst rfl ?_
  refine ra_cTp (sp_199 hx0 (by first | omega | (unfold ra_in at *; omega)) (by first | assumption | rfl | omega)) rfl (ct_199 rfl lk_8_67 (Or.inl rfl) sh_179 (Nat.le_of_ble_eq_true rfl)) ?_
  have hr3 : ra_in (wq σ x0 (2)) := (ra_in_wq _ _ _)
  refine ra_min rfl lk_8_90 hr1 hr3 (Nat.le_of_ble_eq_true rfl) ?_
  refine ra_store (L' := [_, _, _, _, _]) rfl rfl rfl (Nat.le_of_ble_eq_true rfl) rfl ?_
  refine ra_load rfl rfl rfl rfl ?_
  refine ra_load rfl rfl rfl rfl ?_
  refine ra_load rfl rfl rfl rfl ?_
  refine ra_iconst rfl ?_
  refine ra_cTp (sp_199 hx0 (by first | omega | (unfold ra_in at *; omega)) (by first | assumption | rfl | omega)) rfl (ct_199 rfl lk_8_67 (Or.inl rfl) sh_179 (Nat.le_of_ble_eq_true rfl)) ?_
  have hr5 : ra_in (wq σ x0 (1)) := (ra_in_wq _ _ _)
  refine ra_load rfl rfl rfl rfl ?_
  refine ra_cTp (sp_224 hr5 hx1 (by first | assumption | rfl | omega)) rfl (ct_224 rfl lk_8_136 (Or.inl rfl) (Nat.le_of_ble_eq_true rfl)) ?_
  have hf7 := rfar_b (wq σ x0 (1)) x1
  have hr8 : ra_in (rfar (wq σ x0 (1)) x1) := (by first | omega | (unfold ra_in at *; omega))
  refine ra_icle rfl rfl (by first | omega | (unfold ra_in at *; omega)) hr8 (fun h9 => ?_) (fun h9 => ?_)
  · refine ra_iconst rfl ?_
    refine ra_store (L' := [_, _, _, _, _]) rfl rfl rfl (Nat.le_of_ble_eq_true rfl) rfl ?_
    refine ra_load rfl rfl rfl rfl ?_
    refine ra_getR rfl lk_8_7 (Nat.zero_le _) sh_179 rfl ?_
    refine ra_bipush rfl (by decide) ?_
    refine ra_load rfl rfl rfl rfl ?_
    refine ra_iastoreJ (j := 16) rfl sh_180 rfl (by decide) rfl (by decide) ?_
    refine ra_newR hx0 (fun s10 hs10 hs10v hs10o => ?_)
    have hF11 := Fr_tr (lo := 180) (hi := 181) Fr_rf hs10 (by omega)
    refine ra_load rfl rfl rfl rfl ?_
    refine ra_getR rfl lk_8_7 (Nat.zero_le _) sh_179 rfl ?_
    refine ra_bipush rfl (by decide) ?_
    refine ra_load rfl rfl rfl rfl ?_
    refine ra_load rfl rfl rfl rfl ?_
    refine ra_iconst rfl ?_
    refine ra_cTp (sp_199 hx0 (by first | omega | (unfold ra_in at *; omega)) (by first | assumption | rfl | omega)) rfl (ct_199 rfl lk_8_67 (Or.inl rfl) sh_179 (Nat.le_of_ble_eq_true rfl)) ?_
    have hr13 : ra_in (wq s10 x0 (1)) := (ra_in_wq _ _ _)
    refine ra_iastoreJ (j := 17) rfl sh_180 rfl (by decide) rfl (by decide) ?_
    refine ra_newR hr13 (fun s14 hs14 hs14v hs14o => ?_)
    have hF15 := Fr_tr (lo := 180) (hi := 181) hF11 hs14 (by omega)
    refine ra_load rfl rfl rfl rfl ?_
    refine ra_getR rfl lk_8_7 (Nat.zero_le _) sh_179 rfl ?_
    refine ra_bipush rfl (by decide) ?_
    refine ra_load rfl rfl rfl rfl ?_
    refine ra_iastoreJ (j := 18) rfl sh_180 rfl (by decide) rfl (by decide) ?_
    refine ra_newR hx1 (fun s16 hs16 hs16v hs16o => ?_)
    have hF17 := Fr_tr (lo := 180) (hi := 181) hF15 hs16 (by omega)
    refine ra_load rfl rfl rfl rfl ?_
    refine ra_getR rfl lk_8_7 (Nat.zero_le _) sh_179 rfl ?_
    refine ra_bipush rfl (by decide) ?_
    refine ra_load rfl rfl rfl rfl ?_
    refine ra_getR rfl lk_8_7 (Nat.zero_le _) sh_179 rfl ?_
    refine ra_iconst rfl ?_
    refine ra_ialoadJ (j := 4) rfl sh_180 rfl (by decide) rfl (by decide) ?_
    have hr18 : ra_in (ra_g s16 (180) 4) := (ra_in_g _ _ _)
    refine ra_iastoreJ (j := 19) rfl sh_180 rfl (by decide) rfl (by decide) ?_
    refine ra_newR hr18 (fun s19 hs19 hs19v hs19o => ?_)
    have hF20 := Fr_tr (lo := 180) (hi := 181) hF17 hs19 (by omega)
    refine ra_load rfl rfl rfl rfl ?_
    refine ra_getR rfl lk_8_7 (Nat.zero_le _) sh_179 rfl ?_
    refine ra_bipush rfl (by decide) ?_
    refine ra_load rfl rfl rfl rfl ?_
    refine ra_iastoreJ (j := 20) rfl sh_180 rfl (by decide) rfl (by decide) ?_
    refine ra_newR (by first | omega | (unfold ra_in at *; omega)) (fun s21 hs21 hs21v hs21o => ?_)
    have hF22 := Fr_tr (lo := 180) (hi := 181) hF20 hs21 (by omega)
    refine ra_load rfl rfl rfl rfl ?_
    refine ra_getR rfl lk_8_7 (Nat.zero_le _) sh_179 rfl ?_
    refine ra_bipush rfl (by decide) ?_
    refine ra_iconst rfl ?_
    refine ra_iastoreJ (j := 21) rfl sh_180 rfl (by decide) rfl (by decide) ?_
    refine ra_newR (by first | omega | (unfold ra_in at *; omega)) (fun s23 hs23 hs23v hs23o => ?_)
    have hF24 := Fr_tr (lo := 180) (hi := 181) hF22 hs23 (by omega)
    refine ra_load rfl rfl rfl rfl ?_
    refine ra_getR rfl lk_8_7 (Nat.zero_le _) sh_179 rfl ?_
    refine ra_bipush rfl (by decide) ?_
    refine ra_iconst rfl ?_
    refine ra_iastoreJ (j := 22) rfl sh_180 rfl (by decide) rfl (by decide) ?_
    refine ra_newR (by first | omega | (unfold ra_in at *; omega)) (fun s25 hs25 hs25v hs25o => ?_)
    have hF26 := Fr_tr (lo := 180) (hi := 181) hF24 hs25 (by omega)
    exact ra_return rfl rfl ⟨rfl, (by have q := st_ch hw hp hk hs10v hs10o hs14v hs14o hs16v hs16o hs19v hs19o hs21v hs21o hs23v hs23o hs25v hs25o ⟨⟨by omega, by omega⟩, fun _ => by omega⟩; exact ⟨hF26, q.1, q.2, (fun p p0 p1 => ((hs25o _ (by omega)).trans ((hs23o _ (by omega)).trans ((hs21o _ (by omega)).trans ((hs19o _ (by omega)).trans ((hs16o _ (by omega)).trans ((hs14o _ (by omega)).trans (hs10o _ (by omega)))))))))⟩)⟩
  · refine ra_load rfl rfl rfl rfl ?_
    refine ra_load rfl rfl rfl rfl ?_
    refine ra_load rfl rfl rfl rfl ?_
    refine ra_load rfl rfl rfl rfl ?_
    refine ra_cIPp (sp_222 hx0 hx1 (by first | omega | (unfold ra_in at *; omega)) (WF_a hw) (by first | assumption | rfl | omega)) rfl (ct_222 rfl lk_8_139 (Or.inl rfl) sh_179 (Nat.le_of_ble_eq_true rfl)) (fun z28 hz28 hz28p => ?_)
    refine ra_goto rfl rfl ?_
    refine ra_store (L' := [_, _, _, _, _]) rfl rfl rfl (Nat.le_of_ble_eq_true rfl) rfl ?_
    refine ra_load rfl rfl rfl rfl ?_
    refine ra_getR rfl lk_8_7 (Nat.zero_le _) sh_179 rfl ?_
    refine ra_bipush rfl (by decide) ?_
    refine ra_load rfl rfl rfl rfl ?_
    refine ra_iastoreJ (j := 16) rfl sh_180 rfl (by decide) rfl (by decide) ?_
    refine ra_newR hx0 (fun s29 hs29 hs29v hs29o => ?_)
    have hF30 := Fr_tr (lo := 180) (hi := 181) Fr_rf hs29 (by omega)
    refine ra_load rfl rfl rfl rfl ?_
    refine ra_getR rfl lk_8_7 (Nat.zero_le _) sh_179 rfl ?_
    refine ra_bipush rfl (by decide) ?_
    refine ra_load rfl rfl rfl rfl ?_
    refine ra_load rfl rfl rfl rfl ?_
    refine ra_iconst rfl ?_
    refine ra_cTp (sp_199 hx0 (by first | omega | (unfold ra_in at *; omega)) (by first | assumption | rfl | omega)) rfl (ct_199 rfl lk_8_67 (Or.inl rfl) sh_179 (Nat.le_of_ble_eq_true rfl)) ?_
    have hr32 : ra_in (wq s29 x0 (1)) := (ra_in_wq _ _ _)
    refine ra_iastoreJ (j := 17) rfl sh_180 rfl (by decide) rfl (by decide) ?_
    refine ra_newR hr32 (fun s33 hs33 hs33v hs33o => ?_)
    have hF34 := Fr_tr (lo := 180) (hi := 181) hF30 hs33 (by omega)
    refine ra_load rfl rfl rfl rfl ?_
    refine ra_getR rfl lk_8_7 (Nat.zero_le _) sh_179 rfl ?_
    refine ra_bipush rfl (by decide) ?_
    refine ra_load rfl rfl rfl rfl ?_
    refine ra_iastoreJ (j := 18) rfl sh_180 rfl (by decide) rfl (by decide) ?_
    refine ra_newR hx1 (fun s35 hs35 hs35v hs35o => ?_)
    have hF36 := Fr_tr (lo := 180) (hi := 181) hF34 hs35 (by omega)
    refine ra_load rfl rfl rfl rfl ?_
    refine ra_getR rfl lk_8_7 (Nat.zero_le _) sh_179 rfl ?_
    refine ra_bipush rfl (by decide) ?_
    refine ra_load rfl rfl rfl rfl ?_
    refine ra_getR rfl lk_8_7 (Nat.zero_le _) sh_179 rfl ?_
    refine ra_iconst rfl ?_
    refine ra_ialoadJ (j := 4) rfl sh_180 rfl (by decide) rfl (by decide) ?_
    have hr37 : ra_in (ra_g s35 (180) 4) := (ra_in_g _ _ _)
    refine ra_iastoreJ (j := 19) rfl sh_180 rfl (by decide) rfl (by decide) ?_
    refine ra_newR hr37 (fun s38 hs38 hs38v hs38o => ?_)
    have hF39 := Fr_tr (lo := 180) (hi := 181) hF36 hs38 (by omega)
    refine ra_load rfl rfl rfl rfl ?_
    refine ra_getR rfl lk_8_7 (Nat.zero_le _) sh_179 rfl ?_
    refine ra_bipush rfl (by decide) ?_
    refine ra_load rfl rfl rfl rfl ?_
    refine ra_iastoreJ (j := 20) rfl sh_180 rfl (by decide) rfl (by decide) ?_
    refine ra_newR hz28 (fun s40 hs40 hs40v hs40o => ?_)
    have hF41 := Fr_tr (lo := 180) (hi := 181) hF39 hs40 (by omega)
    refine ra_load rfl rfl rfl rfl ?_
    refine ra_getR rfl lk_8_7 (Nat.zero_le _) sh_179 rfl ?_
    refine ra_bipush rfl (by decide) ?_
    refine ra_iconst rfl ?_
    refine ra_iastoreJ (j := 21) rfl sh_180 rfl (by decide) rfl (by decide) ?_
    refine ra_newR (by first | omega | (unfold ra_in at *; omega)) (fun s42 hs42 hs42v hs42o => ?_)
    have hF43 := Fr_tr (lo := 180) (hi := 181) hF41 hs42 (by omega)
    refine ra_load rfl rfl rfl rfl ?_
    refine ra_getR rfl lk_8_7 (Nat.zero_le _) sh_179 rfl ?_
    refine ra_bipush rfl (by decide) ?_
    refine ra_iconst rfl ?_
    refine ra_iastoreJ (j := 22) rfl sh_180 rfl (by decide) rfl (by decide) ?_
    refine ra_newR (by first | omega | (unfold ra_in at *; omega)) (fun s44 hs44 hs44v hs44o => ?_)
    have hF45 := Fr_tr (lo := 180) (hi := 181) hF43 hs44 (by omega)
    exact ra_return rfl rfl ⟨rfl, (by have q := st_ch hw hp hk hs29v hs29o hs33v hs33o hs35v hs35o hs38v hs38o hs40v hs40o hs42v hs42o hs44v hs44o (sc_ok hw hk rfl (by omega) hz28p); exact ⟨hF45, q.1, q.2, (fun p p0 p1 => ((hs44o _ (by omega)).trans ((hs42o _ (by omega)).trans ((hs40o _ (by omega)).trans ((hs38o _ (by omega)).trans ((hs35o _ (by omega)).trans ((hs33o _ (by omega)).trans (hs29o _ (by omega)))))))))⟩)⟩
theorem sp_317 {n : Nat} {f : Nat → Int32} {d : Nat} {x0 : Int} {x1 : Int} {σ : ra_V} (hx0 : ra_in x0) (hx1 : ra_in x1) (hw : WF σ) (hpw : PW σ) : ra_C (g_Gs n f) g_sh 0 (d + 5) 317 [.index (179), ra_I x0, ra_I x1] σ (fun r s => rI r ∧ Fr (179) (191) σ s ∧ s (183) = σ (183) ∧ s (187) = σ (187) ∧ (∀ a, a ≠ 5 → a ≠ 7 → a ≠ 10 → ra_g s 179 a = ra_g σ 179 a) ∧ WF s ∧ PW s) := by
  refine ra_enter (nn := 0) mt_317 rfl (Nat.le_of_ble_eq_true rfl) rfl (fun h => absurd h (by decide +kernel)) ?_
  have hw0 := WF_a hw
  unfold WFa at hw0
  refine ra_load rfl rfl rfl rfl ?_
  refine ra_iconst rfl ?_
  refine ra_putI rfl lk_8_51 (Nat.zero_le _) sh_179 rfl rfl ?_
  refine ra_newU (by first | omega | (unfold ra_in at *; omega)) (fun s1 hs1 hp2 hp2o => ?_)
  have hp2_99 := hp2o 99 (by decide)
  have hF3 := Fr_tr (lo := 179) (hi := 191) Fr_rf hs1 (by omega)
  have hk4 : s1 (180) = σ (180) := (hs1 (180) (by omega))
  have hk5 : s1 (183) = σ (183) := (hs1 (183) (by omega))
  have hk6 : s1 (184) = σ (184) := (hs1 (184) (by omega))
  have hk7 : s1 (187) = σ (187) := (hs1 (187) (by omega))
  have hg8 : ∀ a, a ≠ 5 → a ≠ 7 → a ≠ 10 → ra_g s1 179 a = ra_g σ 179 a := fun a h5 h7 h10 => ((fun a h7 h10 => hp2o a h7) a h7 h10).trans ((fun _ _ _ _ => rfl) a h5 h7 h10)
  have ho9 : ∀ a, a ≠ 7 → a ≠ 10 → ra_g s1 179 a = ra_g σ 179 a := fun a h7 h10 => ((fun a h7 h10 => hp2o a h7) a h7 h10).trans ((fun _ _ _ => rfl) a h7 h10)
  refine ra_load rfl rfl rfl rfl ?_
  refine ra_load rfl rfl rfl rfl ?_
  refine ra_load rfl rfl rfl rfl ?_
  refine ra_cQPp (sp_201 hx0) rfl (ct_201 rfl lk_8_313 (Or.inl rfl) sh_179 (Nat.le_of_ble_eq_true rfl)) (fun z11 hz11 hz11p => ?_)
  rw [wq_k hk4] at hz11p
  refine ra_ifeq rfl rfl (ra_in01 hz11) (fun h12 => ?_) (fun h12 => ?_)
  · refine ra_iconst rfl ?_
    refine ra_iconst rfl ?_
    refine ra_cT (sp_193 (Or.inl rfl) (by first | omega | (unfold ra_in at *; omega))) rfl (ct_193 rfl lk_8_303 (Or.inl rfl) sh_179 (Nat.le_of_ble_eq_true rfl)) (fun s13 hs13 => ?_)
    obtain ⟨hf14, he15⟩ := hs13
    have hF16 := Fr_tr (lo := 179) (hi := 191) hF3 hf14 (by omega)
    have hk17 : s13 (180) = σ (180) := (hf14 (180) (by omega)).trans hk4
    have hk18 : s13 (183) = σ (183) := (hf14 (183) (by omega)).trans hk5
    have hk19 : s13 (184) = σ (184) := (hf14 (184) (by omega)).trans hk6
    have hk20 : s13 (187) = σ (187) := (hf14 (187) (by omega)).trans hk7
    have hg21 : ∀ a, a ≠ 5 → a ≠ 7 → a ≠ 10 → ra_g s13 179 a = ra_g σ 179 a := fun a h5 h7 h10 => ((fun a h7 h10 => he15 a h7) a h7 h10).trans (hg8 a h5 h7 h10)
    have ho22 : ∀ a, a ≠ 7 → a ≠ 10 → ra_g s13 179 a = ra_g σ 179 a := fun a h7 h10 => ((fun a h7 h10 => he15 a h7) a h7 h10).trans (ho9 a h7 h10)
    refine ra_ifne rfl rfl (by first | omega | (unfold ra_in at *; omega)) (fun h23 => ?_) (fun h23 => ?_)
    · exact absurd h23 (by decide)
    · refine ra_load rfl rfl rfl rfl ?_
      refine ra_load rfl rfl rfl rfl ?_
      refine ra_iconst rfl ?_
      refine ra_cQP (sp_267 hx0 (by first | omega | (unfold ra_in at *; omega))) rfl (ct_267 rfl lk_8_318 (Or.inl rfl) sh_179 (Nat.le_of_ble_eq_true rfl)) (fun z25 s24 hz25 hz25p hs24 => ?_)
      rw [wq_k hk17] at hz25p
      obtain ⟨hf26, he27⟩ := hs24
      have hF28 := Fr_tr (lo := 179) (hi := 191) hF16 hf26 (by omega)
      have hk29 : s24 (180) = σ (180) := (hf26 (180) (by omega)).trans hk17
      have hk30 : s24 (183) = σ (183) := (hf26 (183) (by omega)).trans hk18
      have hk31 : s24 (184) = σ (184) := (hf26 (184) (by omega)).trans hk19
      have hk32 : s24 (187) = σ (187) := (hf26 (187) (by omega)).trans hk20
      have hg33 : ∀ a, a ≠ 5 → a ≠ 7 → a ≠ 10 → ra_g s24 179 a = ra_g σ 179 a := fun a h5 h7 h10 => ((fun a h7 h10 => he27 a h7) a h7 h10).trans (hg21 a h5 h7 h10)
      have ho34 : ∀ a, a ≠ 7 → a ≠ 10 → ra_g s24 179 a = ra_g σ 179 a := fun a h7 h10 => ((fun a h7 h10 => he27 a h7) a h7 h10).trans (ho22 a h7 h10)
      refine ra_ifeq rfl rfl (ra_in01 hz25) (fun h35 => ?_) (fun h35 => ?_)
      · refine ra_load rfl rfl rfl rfl ?_
        have hp := hz25p (by omega)
        have hst := hz11p.mpr hp
        have hq := WF_p hw hp.1 hp.2.1 hp.2.2
        refine ra_cV (sp_196 (WF_k hk29 hw) (PW_k hpw (ho34 5 (by decide) (by decide)) hk31)) rfl (ct_196 rfl lk_8_366 (Or.inl rfl) sh_179 (Nat.le_of_ble_eq_true rfl)) (fun s36 hs36 => ?_)
        obtain ⟨hf37, hc38, hc39, hc40, hc41, he42, he43⟩ := hs36
        have hF44 := Fr_tr (lo := 179) (hi := 191) hF28 hf37 (by omega)
        have hk45 : s36 (180) = σ (180) := hc38.trans hk29
        have hk46 : s36 (183) = σ (183) := hc41.trans hk30
        have hk47 : s36 (187) = σ (187) := (hf37 (187) (by omega)).trans hk32
        have hg48 : ∀ a, a ≠ 5 → a ≠ 7 → a ≠ 10 → ra_g s36 179 a = ra_g σ 179 a := fun a h5 h7 h10 => ((fun a h5 h7 h10 => he42 a h5) a h5 h7 h10).trans (hg33 a h5 h7 h10)
        refine ra_load rfl rfl rfl rfl ?_
        refine ra_load rfl rfl rfl rfl ?_
        refine ra_load rfl rfl rfl rfl ?_
        refine ra_cV (sp_239 hx0 hx1 (WF_k hk45 hw) (sp_k hk45 rfl (hz25p (by omega))) (by exfalso; omega)) rfl (ct_239 rfl lk_8_391 (Or.inl rfl) sh_179 (Nat.le_of_ble_eq_true rfl)) (fun s49 hs49 => ?_)
        obtain ⟨hf50, he51, he52, he53⟩ := hs49
        have hF54 := Fr_tr (lo := 179) (hi := 191) hF44 hf50 (by omega)
        have hk55 : s49 (183) = σ (183) := (hf50 (183) (by omega)).trans hk46
        have hk56 : s49 (187) = σ (187) := (hf50 (187) (by omega)).trans hk47
        have hg57 : ∀ a, a ≠ 5 → a ≠ 7 → a ≠ 10 → ra_g s49 179 a = ra_g σ 179 a := fun a h5 h7 h10 => (ra_gk (hf50 179 (by omega))).trans (hg48 a h5 h7 h10)
        refine ra_load rfl rfl rfl rfl ?_
        refine ra_cIp (sp_234 (MV_f he51 (by have := he52; omega))) rfl (ct_234 rfl lk_8_394 (Or.inl rfl) sh_179 (Nat.le_of_ble_eq_true rfl)) (fun z59 hz59 => ?_)
        exact ra_ireturn rfl rfl ⟨⟨_, hz59, rfl⟩, ⟨hF54, hk55, hk56, hg57, he51, (PW_k he43 (ra_gk (hf50 179 (by omega))) (hf50 184 (by omega)))⟩⟩
      · refine ra_iconst rfl ?_
        exact ra_ireturn rfl rfl ⟨⟨_, (by first | omega | (unfold ra_in at *; omega)), rfl⟩, ⟨hF28, hk30, hk32, hg33, (WF_k hk29 hw), (PW_k hpw (ho34 5 (by decide) (by decide)) hk31)⟩⟩
  · refine ra_load rfl rfl rfl rfl ?_
    refine ra_load rfl rfl rfl rfl ?_
    refine ra_load rfl rfl rfl rfl ?_
    refine ra_cIPp (sp_223 hx0 hx1 (WF_k hk4 hw) (sp_k hk4 rfl (hz11p.mp (by omega)))) rfl (ct_223 rfl lk_8_183 (Or.inl rfl) sh_179 (Nat.le_of_ble_eq_true rfl)) (fun z61 hz61 hz61p => ?_)
    refine ra_ifeq rfl rfl hz61 (fun h62 => ?_) (fun h62 => ?_)
    · refine ra_iconst rfl ?_
      refine ra_iconst rfl ?_
      refine ra_cT (sp_193 (Or.inl rfl) (by first | omega | (unfold ra_in at *; omega))) rfl (ct_193 rfl lk_8_303 (Or.inl rfl) sh_179 (Nat.le_of_ble_eq_true rfl)) (fun s63 hs63 => ?_)
      obtain ⟨hf64, he65⟩ := hs63
      have hF66 := Fr_tr (lo := 179) (hi := 191) hF3 hf64 (by omega)
      have hk67 : s63 (180) = σ (180) := (hf64 (180) (by omega)).trans hk4
      have hk68 : s63 (183) = σ (183) := (hf64 (183) (by omega)).trans hk5
      have hk69 : s63 (184) = σ (184) := (hf64 (184) (by omega)).trans hk6
      have hk70 : s63 (187) = σ (187) := (hf64 (187) (by omega)).trans hk7
      have hg71 : ∀ a, a ≠ 5 → a ≠ 7 → a ≠ 10 → ra_g s63 179 a = ra_g σ 179 a := fun a h5 h7 h10 => ((fun a h7 h10 => he65 a h7) a h7 h10).trans (hg8 a h5 h7 h10)
      have ho72 : ∀ a, a ≠ 7 → a ≠ 10 → ra_g s63 179 a = ra_g σ 179 a := fun a h7 h10 => ((fun a h7 h10 => he65 a h7) a h7 h10).trans (ho9 a h7 h10)
      refine ra_ifne rfl rfl (by first | omega | (unfold ra_in at *; omega)) (fun h73 => ?_) (fun h73 => ?_)
      · exact absurd h73 (by decide)
      · refine ra_load rfl rfl rfl rfl ?_
        refine ra_load rfl rfl rfl rfl ?_
        refine ra_iconst rfl ?_
        refine ra_cQP (sp_267 hx0 (by first | omega | (unfold ra_in at *; omega))) rfl (ct_267 rfl lk_8_318 (Or.inl rfl) sh_179 (Nat.le_of_ble_eq_true rfl)) (fun z75 s74 hz75 hz75p hs74 => ?_)
        rw [wq_k hk67] at hz75p
        obtain ⟨hf76, he77⟩ := hs74
        have hF78 := Fr_tr (lo := 179) (hi := 191) hF66 hf76 (by omega)
        have hk79 : s74 (180) = σ (180) := (hf76 (180) (by omega)).trans hk67
        have hk80 : s74 (183) = σ (183) := (hf76 (183) (by omega)).trans hk68
        have hk81 : s74 (184) = σ (184) := (hf76 (184) (by omega)).trans hk69
        have hk82 : s74 (187) = σ (187) := (hf76 (187) (by omega)).trans hk70
        have hg83 : ∀ a, a ≠ 5 → a ≠ 7 → a ≠ 10 → ra_g s74 179 a = ra_g σ 179 a := fun a h5 h7 h10 => ((fun a h7 h10 => he77 a h7) a h7 h10).trans (hg71 a h5 h7 h10)
        have ho84 : ∀ a, a ≠ 7 → a ≠ 10 → ra_g s74 179 a = ra_g σ 179 a := fun a h7 h10 => ((fun a h7 h10 => he77 a h7) a h7 h10).trans (ho72 a h7 h10)
        refine ra_ifeq rfl rfl (ra_in01 hz75) (fun h85 => ?_) (fun h85 => ?_)
        · refine ra_load rfl rfl rfl rfl ?_
          have hp := hz75p (by omega)
          have hst := hz11p.mpr hp
          have hq := WF_p hw hp.1 hp.2.1 hp.2.2
          have hk := mok_k hk4 (hz61p (by omega))
          refine ra_cV (sp_196 (WF_k hk79 hw) (PW_k hpw (ho84 5 (by decide) (by decide)) hk81)) rfl (ct_196 rfl lk_8_366 (Or.inl rfl) sh_179 (Nat.le_of_ble_eq_true rfl)) (fun s86 hs86 => ?_)
          obtain ⟨hf87, hc88, hc89, hc90, hc91, he92, he93⟩ := hs86
          have hF94 := Fr_tr (lo := 179) (hi := 191) hF78 hf87 (by omega)
          have hk95 : s86 (180) = σ (180) := hc88.trans hk79
          have hk96 : s86 (183) = σ (183) := hc91.trans hk80
          have hk97 : s86 (187) = σ (187) := (hf87 (187) (by omega)).trans hk82
          have hg98 : ∀ a, a ≠ 5 → a ≠ 7 → a ≠ 10 → ra_g s86 179 a = ra_g σ 179 a := fun a h5 h7 h10 => ((fun a h5 h7 h10 => he92 a h5) a h5 h7 h10).trans (hg83 a h5 h7 h10)
          refine ra_load rfl rfl rfl rfl ?_
          refine ra_load rfl rfl rfl rfl ?_
          refine ra_load rfl rfl rfl rfl ?_
          refine ra_cV (sp_239 hx0 hx1 (WF_k hk95 hw) (sp_k hk95 rfl (hz75p (by omega))) (mok_k hk95.symm hk)) rfl (ct_239 rfl lk_8_391 (Or.inl rfl) sh_179 (Nat.le_of_ble_eq_true rfl)) (fun s99 hs99 => ?_)
          obtain ⟨hf100, he101, he102, he103⟩ := hs99
          have hF104 := Fr_tr (lo := 179) (hi := 191) hF94 hf100 (by omega)
          have hk105 : s99 (183) = σ (183) := (hf100 (183) (by omega)).trans hk96
          have hk106 : s99 (187) = σ (187) := (hf100 (187) (by omega)).trans hk97
          have hg107 : ∀ a, a ≠ 5 → a ≠ 7 → a ≠ 10 → ra_g s99 179 a = ra_g σ 179 a := fun a h5 h7 h10 => (ra_gk (hf100 179 (by omega))).trans (hg98 a h5 h7 h10)
          refine ra_load rfl rfl rfl rfl ?_
          refine ra_cIp (sp_234 (MV_f he101 (by have := he102; omega))) rfl (ct_234 rfl lk_8_394 (Or.inl rfl) sh_179 (Nat.le_of_ble_eq_true rfl)) (fun z109 hz109 => ?_)
          exact ra_ireturn rfl rfl ⟨⟨_, hz109, rfl⟩, ⟨hF104, hk105, hk106, hg107, he101, (PW_k he93 (ra_gk (hf100 179 (by omega))) (hf100 184 (by omega)))⟩⟩
        · refine ra_iconst rfl ?_
          exact ra_ireturn rfl rfl ⟨⟨_, (by first | omega | (unfold ra_in at *; omega)), rfl⟩, ⟨hF78, hk80, hk82, hg83, (WF_k hk79 hw), (PW_k hpw (ho84 5 (by decide) (by decide)) hk81)⟩⟩
    · refine ra_iconst rfl ?_
      refine ra_goto rfl rfl ?_
      refine ra_iconst rfl ?_
      refine ra_cT (sp_193 (Or.inr rfl) (by first | omega | (unfold ra_in at *; omega))) rfl (ct_193 rfl lk_8_303 (Or.inl rfl) sh_179 (Nat.le_of_ble_eq_true rfl)) (fun s110 hs110 => ?_)
      obtain ⟨hf111, he112⟩ := hs110
      have hF113 := Fr_tr (lo := 179) (hi := 191) hF3 hf111 (by omega)
      have hk114 : s110 (180) = σ (180) := (hf111 (180) (by omega)).trans hk4
      have hk115 : s110 (183) = σ (183) := (hf111 (183) (by omega)).trans hk5
      have hk116 : s110 (184) = σ (184) := (hf111 (184) (by omega)).trans hk6
      have hk117 : s110 (187) = σ (187) := (hf111 (187) (by omega)).trans hk7
      have hg118 : ∀ a, a ≠ 5 → a ≠ 7 → a ≠ 10 → ra_g s110 179 a = ra_g σ 179 a := fun a h5 h7 h10 => ((fun a h7 h10 => he112 a h7) a h7 h10).trans (hg8 a h5 h7 h10)
      have ho119 : ∀ a, a ≠ 7 → a ≠ 10 → ra_g s110 179 a = ra_g σ 179 a := fun a h7 h10 => ((fun a h7 h10 => he112 a h7) a h7 h10).trans (ho9 a h7 h10)
      refine ra_ifne rfl rfl (by first | omega | (unfold ra_in at *; omega)) (fun h120 => ?_) (fun h120 => ?_)
      · refine ra_iconst rfl ?_
        exact ra_ireturn rfl rfl ⟨⟨_, (by first | omega | (unfold ra_in at *; omega)), rfl⟩, ⟨hF113, hk115, hk117, hg118, (WF_k hk114 hw), (PW_k hpw (ho119 5 (by decide) (by decide)) hk116)⟩⟩
      · exact absurd h120 (by decide)
end RB
