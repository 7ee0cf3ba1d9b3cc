/-! the reference: what its methods do (printed by wip/gen/ref.py) -/
section RB
theorem sp_239 {n : Nat} {f : Nat → Int32} {d : Nat} {x0 : Int} {x1 : Int} {σ : ra_V} (hx0 : ra_in x0) (hx1 : ra_in x1) (hw : WF σ) (hp : 0 ≤ x0 ∧ x0 < 8 ∧ wq σ x0 0 = 1) (hk : MOK σ x0 x1) : ra_C (g_Gs n f) g_sh 0 (d + 4) 239 [.index (179), ra_I x0, ra_I x1] σ (fun r s => rV r ∧ Fr (180) (181) σ s ∧ WF s ∧ ra_g s 180 16 = x0 ∧ ∀ p, 0 ≤ p → p < 8 → wq s p 0 = wq σ p 0) := by
  refine ra_enter (nn := 2) mt_239 rfl (Nat.le_of_ble_eq_true rfl) rfl (fun h => absurd h (by decide +kernel)) ?_
  have hw0 := WF_a hw
  unfold WFa at hw0
  have hq := WF_p hw hp.1 hp.2.1 hp.2.2
  have hu := hk.2.2.1
  unfold US at hu
  refine ra_load rfl rfl rfl rfl ?_
  refine ra_getR rfl lk_8_7 (Nat.zero_le _) sh_179 rfl ?_
  refine ra_iconst rfl ?_
  refine ra_ialoadJ (j := 4) rfl sh_180 rfl (by decide) rfl (by decide) ?_
  have hr1 : ra_in (ra_g σ (180) 4) := (ra_in_g _ _ _)
  refine ra_load rfl rfl rfl rfl ?_
  refine ra_load rfl rfl rfl rfl ?_
  refine ra_iconst rfl ?_
  refine ra_cTp (sp_199 hx0 (by first | omega | (unfold ra_in at *; omega)) (by first | assumption | rfl | omega)) rfl (ct_199 rfl lk_8_67 (Or.inl rfl) sh_179 (Nat.le_of_ble_eq_true rfl)) ?_
  have hr3 : ra_in (wq σ x0 (2)) := (ra_in_wq _ _ _)
  refine ra_min rfl lk_8_90 hr1 hr3 (Nat.le_of_ble_eq_true rfl) ?_
  refine ra_store (L' := [_, _, _, _, _]) rfl rfl rfl (Nat.le_of_ble_eq_true rfl) rfl ?_
  refine ra_load rfl rfl rfl rfl ?_
  refine ra_load rfl rfl rfl rfl ?_
  refine ra_load rfl rfl rfl rfl ?_
  refine ra_iconst rfl ?_
  refine ra_cTp (sp_199 hx0 (by first | omega | (unfold ra_in at *; omega)) (by first | assumption | rfl | omega)) rfl (ct_199 rfl lk_8_67 (Or.inl rfl) sh_179 (Nat.le_of_ble_eq_true rfl)) ?_
  have hr5 : ra_in (wq σ x0 (1)) := (ra_in_wq _ _ _)
  refine ra_load rfl rfl rfl rfl ?_
  refine ra_cTp (sp_224 hr5 hx1 (by first | assumption | rfl | omega)) rfl (ct_224 rfl lk_8_136 (Or.inl rfl) (Nat.le_of_ble_eq_true rfl)) ?_
  have hf7 := rfar_b (wq σ x0 (1)) x1
  have hr8 : ra_in (rfar (wq σ x0 (1)) x1) := (by first | omega | (unfold ra_in at *; omega))
  refine ra_icle rfl rfl (by first | omega | (unfold ra_in at *; omega)) hr8 (fun h9 => ?_) (fun h9 => ?_)
  · refine ra_iconst rfl ?_
    refine ra_store (L' := [_, _, _, _, _]) rfl rfl rfl (Nat.le_of_ble_eq_true rfl) rfl ?_
    refine ra_load rfl rfl rfl rfl ?_
    refine ra_getR rfl lk_8_7 (Nat.zero_le _) sh_179 rfl ?_
    refine ra_bipush rfl (by decide) ?_
    refine ra_load rfl rfl rfl rfl ?_
    refine ra_iastoreJ (j := 16) rfl sh_180 rfl (by decide) rfl (by decide) ?_
    refine ra_newR hx0 (fun s10 hs10 hs10v hs10o => ?_)
    have hF11 := Fr_tr (lo := 180) (hi := 181) Fr_rf hs10 (by omega)
    refine ra_load rfl rfl rfl rfl ?_
    refine ra_getR rfl lk_8_7 (Nat.zero_le _) sh_179 rfl ?_
    refine ra_bipush rfl (by decide) ?_
    refine ra_load rfl rfl rfl rfl ?_
    refine ra_load rfl rfl rfl rfl ?_
    refine ra_iconst rfl ?_
    refine ra_cTp (sp_199 hx0 (by first | omega | (unfold ra_in at *; omega)) (by first | assumption | rfl | omega)) rfl (ct_199 rfl lk_8_67 (Or.inl rfl) sh_179 (Nat.le_of_ble_eq_true rfl)) ?_
    have hr13 : ra_in (wq s10 x0 (1)) := (ra_in_wq _ _ _)
    refine ra_iastoreJ (j := 17) rfl sh_180 rfl (by decide) rfl (by decide) ?_
    refine ra_newR hr13 (fun s14 hs14 hs14v hs14o => ?_)
    have hF15 := Fr_tr (lo := 180) (hi := 181) hF11 hs14 (by omega)
    refine ra_load rfl rfl rfl rfl ?_
    refine ra_getR rfl lk_8_7 (Nat.zero_le _) sh_179 rfl ?_
    refine ra_bipush rfl (by decide) ?_
    refine ra_load rfl rfl rfl rfl ?_
    refine ra_iastoreJ (j := 18) rfl sh_180 rfl (by decide) rfl (by decide) ?_
    refine ra_newR hx1 (fun s16 hs16 hs16v hs16o => ?_)
    have hF17 := Fr_tr (lo := 180) (hi := 181) hF15 hs16 (by omega)
    refine ra_load rfl rfl rfl rfl ?_
    refine ra_getR rfl lk_8_7 (Nat.zero_le _) sh_179 rfl ?_
    refine ra_bipush rfl (by decide) ?_
    refine ra_load rfl rfl rfl rfl ?_
    refine ra_getR rfl lk_8_7 (Nat.zero_le _) sh_179 rfl ?_
    refine ra_iconst rfl ?_
    refine ra_ialoadJ (j := 4) rfl sh_180 rfl (by decide) rfl (by decide) ?_
    have hr18 : ra_in (ra_g s16 (180) 4) := (ra_in_g _ _ _)
    refine ra_iastoreJ (j := 19) rfl sh_180 rfl (by decide) rfl (by decide) ?_
    refine ra_newR hr18 (fun s19 hs19 hs19v hs19o => ?_)
    have hF20 := Fr_tr (lo := 180) (hi := 181) hF17 hs19 (by omega)
    refine ra_load rfl rfl rfl rfl ?_
    refine ra_getR rfl lk_8_7 (Nat.zero_le _) sh_179 rfl ?_
    refine ra_bipush rfl (by decide) ?_
    refine ra_load rfl rfl rfl rfl ?_
    refine ra_iastoreJ (j := 20) rfl sh_180 rfl (by decide) rfl (by decide) ?_
    refine ra_newR (by first | omega | (unfold ra_in at *; omega)) (fun s21 hs21 hs21v hs21o => ?_)
    have hF22 := Fr_tr (lo := 180) (hi := 181) hF20 hs21 (by omega)
    refine ra_load rfl rfl rfl rfl ?_
    refine ra_getR rfl lk_8_7 (Nat.zero_le _) sh_179 rfl ?_
    refine ra_bipush rfl (by decide) ?_
    refine ra_iconst rfl ?_
    refine ra_iastoreJ (j := 21) rfl sh_180 rfl (by decide) rfl (by decide) ?_
    refine ra_newR (by first | omega | (unfold ra_in at *; omega)) (fun s23 hs23 hs23v hs23o => ?_)
    have hF24 := Fr_tr (lo := 180) (hi := 181) hF22 hs23 (by omega)
    refine ra_load rfl rfl rfl rfl ?_
    refine ra_getR rfl lk_8_7 (Nat.zero_le _) sh_179 rfl ?_
    refine ra_bipush rfl (by decide) ?_
    refine ra_iconst rfl ?_
    refine ra_iastoreJ (j := 22) rfl sh_180 rfl (by decide) rfl (by decide) ?_
    refine ra_newR (by first | omega | (unfold ra_in at *; omega)) (fun s25 hs25 hs25v hs25o => ?_)
    have hF26 := Fr_tr (lo := 180) (hi := 181) hF24 hs25 (by omega)
    exact ra_return rfl rfl ⟨rfl, (by have q := st_ch hw hp hk hs10v hs10o hs14v hs14o hs16v hs16o hs19v hs19o hs21v hs21o hs23v hs23o hs25v hs25o ⟨⟨by omega, by omega⟩, fun _ => by omega⟩; exact ⟨hF26, q.1, q.2, (fun p p0 p1 => ((hs25o _ (by omega)).trans ((hs23o _ (by omega)).trans ((hs21o _ (by omega)).trans ((hs19o _ (by omega)).trans ((hs16o _ (by omega)).trans ((hs14o _ (by omega)).trans (hs10o _ (by omega)))))))))⟩)⟩
  · refine ra_load rfl rfl rfl rfl ?_
    refine ra_load rfl rfl rfl rfl ?_
    refine ra_load rfl rfl rfl rfl ?_
    refine ra_load rfl rfl rfl rfl ?_
    refine ra_cIPp (sp_222 hx0 hx1 (by first | omega | (unfold ra_in at *; omega)) (WF_a hw) (by first | assumption | rfl | omega)) rfl (ct_222 rfl lk_8_139 (Or.inl rfl) sh_179 (Nat.le_of_ble_eq_true rfl)) (fun z28 hz28 hz28p => ?_)
    refine ra_goto rfl rfl ?_
    refine ra_store (L' := [_, _, _, _, _]) rfl rfl rfl (Nat.le_of_ble_eq_true rfl) rfl ?_
    refine ra_load rfl rfl rfl rfl ?_
    refine ra_getR rfl lk_8_7 (Nat.zero_le _) sh_179 rfl ?_
    refine ra_bipush rfl (by decide) ?_
    refine ra_load rfl rfl rfl rfl ?_
    refine ra_iastoreJ (j := 16) rfl sh_180 rfl (by decide) rfl (by decide) ?_
    refine ra_newR hx0 (fun s29 hs29 hs29v hs29o => ?_)
    have hF30 := Fr_tr (lo := 180) (hi := 181) Fr_rf hs29 (by omega)
    refine ra_load rfl rfl rfl rfl ?_
    refine ra_getR rfl lk_8_7 (Nat.zero_le _) sh_179 rfl ?_
    refine ra_bipush rfl (by decide) ?_
    refine ra_load rfl rfl rfl rfl ?_
    refine ra_load rfl rfl rfl rfl ?_
    refine ra_iconst rfl ?_
    refine ra_cTp (sp_199 hx0 (by first | omega | (unfold ra_in at *; omega)) (by first | assumption | rfl | omega)) rfl (ct_199 rfl lk_8_67 (Or.inl rfl) sh_179 (Nat.le_of_ble_eq_true rfl)) ?_
    have hr32 : ra_in (wq s29 x0 (1)) := (ra_in_wq _ _ _)
    refine ra_iastoreJ (j := 17) rfl sh_180 rfl (by decide) rfl (by decide) ?_
    refine ra_newR hr32 (fun s33 hs33 hs33v hs33o => ?_)
    have hF34 := Fr_tr (lo := 180) (hi := 181) hF30 hs33 (by omega)
    refine ra_load rfl rfl rfl rfl ?_
    refine ra_getR rfl lk_8_7 (Nat.zero_le _) sh_179 rfl ?_
    refine ra_bipush rfl (by decide) ?_
    refine ra_load rfl rfl rfl rfl ?_
    refine ra_iastoreJ (j := 18) rfl sh_180 rfl (by decide) rfl (by decide) ?_
    refine ra_newR hx1 (fun s35 hs35 hs35v hs35o => ?_)
    have hF36 := Fr_tr (lo := 180) (hi := 181) hF34 hs35 (by omega)
    refine ra_load rfl rfl rfl rfl ?_
    refine ra_getR rfl lk_8_7 (Nat.zero_le _) sh_179 rfl ?_
    refine ra_bipush rfl (by decide) ?_
    refine ra_load rfl rfl rfl rfl ?_
    refine ra_getR rfl lk_8_7 (Nat.zero_le _) sh_179 rfl ?_
    refine ra_iconst rfl ?_
    refine ra_ialoadJ (j := 4) rfl sh_180 rfl (by decide) rfl (by decide) ?_
    have hr37 : ra_in (ra_g s35 (180) 4) := (ra_in_g _ _ _)
    refine ra_iastoreJ (j := 19) rfl sh_180 rfl (by decide) rfl (by decide) ?_
    refine ra_newR hr37 (fun s38 hs38 hs38v hs38o => ?_)
    have hF39 := Fr_tr (lo := 180) (hi := 181) hF36 hs38 (by omega)
    refine ra_load rfl rfl rfl rfl ?_
    refine ra_getR rfl lk_8_7 (Nat.zero_le _) sh_179 rfl ?_
    refine ra_bipush rfl (by decide) ?_
    refine ra_load rfl rfl rfl rfl ?_
    refine ra_iastoreJ (j := 20) rfl sh_180 rfl (by decide) rfl (by decide) ?_
    refine ra_newR hz28 (fun s40 hs40 hs40v hs40o => ?_)
    have hF41 := Fr_tr (lo := 180) (hi := 181) hF39 hs40 (by omega)
    refine ra_load rfl rfl rfl rfl ?_
    refine ra_getR rfl lk_8_7 (Nat.zero_le _) sh_179 rfl ?_
    refine ra_bipush rfl (by decide) ?_
    refine ra_iconst rfl ?_
    refine ra_iastoreJ (j := 21) rfl sh_180 rfl (by decide) rfl (by decide) ?_
    refine ra_newR (by first | omega | (unfold ra_in at *; omega)) (fun s42 hs42 hs42v hs42o => ?_)
    have hF43 := Fr_tr (lo := 180) (hi := 181) hF41 hs42 (by omega)
    refine ra_load rfl rfl rfl rfl ?_
    refine ra_getR rfl lk_8_7 (Nat.zero_le _) sh_179 rfl ?_
    refine ra_bipush rfl (by decide) ?_
    refine ra_iconst rfl ?_
    refine ra_iastoreJ (j := 22) rfl sh_180 rfl (by decide) rfl (by decide) ?_
    refine ra_newR (by first | omega | (unfold ra_in at *; omega)) (fun s44 hs44 hs44v hs44o => ?_)
    have hF45 := Fr_tr (lo := 180) (hi := 181) hF43 hs44 (by omega)
    exact ra_return rfl rfl ⟨rfl, (by have q := st_ch hw hp hk hs29v hs29o hs33v hs33o hs35v hs35o hs38v hs38o hs40v hs40o hs42v hs42o hs44v hs44o (sc_ok hw hk rfl (by omega) hz28p); exact ⟨hF45, q.1, q.2, (fun p p0 p1 => ((hs44o _ (by omega)).trans ((hs42o _ (by omega)).trans ((hs40o _ (by omega)).trans ((hs38o _ (by omega)).trans ((hs35o _ (by omega)).trans ((hs33o _ (by omega)).trans (hs29o _ (by omega)))))))))⟩)⟩
theorem sp_317 {n : Nat} {f : Nat → Int32} {d : Nat} {x0 : Int} {x1 : Int} {σ : ra_V} (hx0 : ra_in x0) (hx1 : ra_in x1) (hw : WF σ) (hpw : PW σ) : ra_C (g_Gs n f) g_sh 0 (d + 5) 317 [.index (179), ra_I x0, ra_I x1] σ (fun r s => rI r ∧ Fr (179) (191) σ s ∧ s (183) = σ (183) ∧ (∀ a, a ≠ 5 → a ≠ 7 → a ≠ 10 → ra_g s 179 a = ra_g σ 179 a) ∧ WF s ∧ PW s) := by
  refine ra_enter (nn := 0) mt_317 rfl (Nat.le_of_ble_eq_true rfl) rfl (fun h => absurd h (by decide +kernel)) ?_
  have hw0 := WF_a hw
  unfold WFa at hw0
  refine ra_load rfl rfl rfl rfl ?_
  refine ra_iconst rfl ?_
  refine ra_putI rfl lk_8_51 (Nat.zero_le _) sh_179 rfl rfl ?_
  refine ra_newU (by first | omega | (unfold ra_in at *; omega)) (fun s1 hs1 hp2 hp2o => ?_)
  have hp2_99 := hp2o 99 (by decide)
  have hF3 := Fr_tr (lo := 179) (hi := 191) Fr_rf hs1 (by omega)
  have hk4 : s1 (180) = σ (180) := (hs1 (180) (by omega))
  have hk5 : s1 (183) = σ (183) := (hs1 (183) (by omega))
  have hk6 : s1 (184) = σ (184) := (hs1 (184) (by omega))
  have hg7 : ∀ a, a ≠ 5 → a ≠ 7 → a ≠ 10 → ra_g s1 179 a = ra_g σ 179 a := fun a h5 h7 h10 => ((fun a h7 h10 => hp2o a h7) a h7 h10).trans ((fun _ _ _ _ => rfl) a h5 h7 h10)
  have ho8 : ∀ a, a ≠ 7 → a ≠ 10 → ra_g s1 179 a = ra_g σ 179 a := fun a h7 h10 => ((fun a h7 h10 => hp2o a h7) a h7 h10).trans ((fun _ _ _ => rfl) a h7 h10)
  refine ra_load rfl rfl rfl rfl ?_
  refine ra_load rfl rfl rfl rfl ?_
  refine ra_load rfl rfl rfl rfl ?_
  refine ra_cQPp (sp_201 hx0) rfl (ct_201 rfl lk_8_313 (Or.inl rfl) sh_179 (Nat.le_of_ble_eq_true rfl)) (fun z10 hz10 hz10p => ?_)
  rw [wq_k hk4] at hz10p
  refine ra_ifeq rfl rfl (ra_in01 hz10) (fun h11 => ?_) (fun h11 => ?_)
  · refine ra_iconst rfl ?_
    refine ra_iconst rfl ?_
    refine ra_cT (sp_193 (Or.inl rfl) (by first | omega | (unfold ra_in at *; omega))) rfl (ct_193 rfl lk_8_303 (Or.inl rfl) sh_179 (Nat.le_of_ble_eq_true rfl)) (fun s12 hs12 => ?_)
    obtain ⟨hf13, he14⟩ := hs12
    have hF15 := Fr_tr (lo := 179) (hi := 191) hF3 hf13 (by omega)
    have hk16 : s12 (180) = σ (180) := (hf13 (180) (by omega)).trans hk4
    have hk17 : s12 (183) = σ (183) := (hf13 (183) (by omega)).trans hk5
    have hk18 : s12 (184) = σ (184) := (hf13 (184) (by omega)).trans hk6
    have hg19 : ∀ a, a ≠ 5 → a ≠ 7 → a ≠ 10 → ra_g s12 179 a = ra_g σ 179 a := fun a h5 h7 h10 => ((fun a h7 h10 => he14 a h7) a h7 h10).trans (hg7 a h5 h7 h10)
    have ho20 : ∀ a, a ≠ 7 → a ≠ 10 → ra_g s12 179 a = ra_g σ 179 a := fun a h7 h10 => ((fun a h7 h10 => he14 a h7) a h7 h10).trans (ho8 a h7 h10)
    refine ra_ifne rfl rfl (by first | omega | (unfold ra_in at *; omega)) (fun h21 => ?_) (fun h21 => ?_)
    · exact absurd h21 (by decide)
    · refine ra_load rfl rfl rfl rfl ?_
      refine ra_load rfl rfl rfl rfl ?_
      refine ra_iconst rfl ?_
      refine ra_cQP (sp_267 hx0 (by first | omega | (unfold ra_in at *; omega))) rfl (ct_267 rfl lk_8_318 (Or.inl rfl) sh_179 (Nat.le_of_ble_eq_true rfl)) (fun z23 s22 hz23 hz23p hs22 => ?_)
      rw [wq_k hk16] at hz23p
      obtain ⟨hf24, he25⟩ := hs22
      have hF26 := Fr_tr (lo := 179) (hi := 191) hF15 hf24 (by omega)
      have hk27 : s22 (180) = σ (180) := (hf24 (180) (by omega)).trans hk16
      have hk28 : s22 (183) = σ (183) := (hf24 (183) (by omega)).trans hk17
      have hk29 : s22 (184) = σ (184) := (hf24 (184) (by omega)).trans hk18
      have hg30 : ∀ a, a ≠ 5 → a ≠ 7 → a ≠ 10 → ra_g s22 179 a = ra_g σ 179 a := fun a h5 h7 h10 => ((fun a h7 h10 => he25 a h7) a h7 h10).trans (hg19 a h5 h7 h10)
      have ho31 : ∀ a, a ≠ 7 → a ≠ 10 → ra_g s22 179 a = ra_g σ 179 a := fun a h7 h10 => ((fun a h7 h10 => he25 a h7) a h7 h10).trans (ho20 a h7 h10)
      refine ra_ifeq rfl rfl (ra_in01 hz23) (fun h32 => ?_) (fun h32 => ?_)
      · refine ra_load rfl rfl rfl rfl ?_
        have hp := hz23p (by omega)
        have hst := hz10p.mpr hp
        have hq := WF_p hw hp.1 hp.2.1 hp.2.2
        refine ra_cV (sp_196 (WF_k hk27 hw) (PW_k hpw (ho31 5 (by decide) (by decide)) hk29)) rfl (ct_196 rfl lk_8_366 (Or.inl rfl) sh_179 (Nat.le_of_ble_eq_true rfl)) (fun s33 hs33 => ?_)
        obtain ⟨hf34, hc35, hc36, hc37, hc38, he39, he40⟩ := hs33
        have hF41 := Fr_tr (lo := 179) (hi := 191) hF26 hf34 (by omega)
        have hk42 : s33 (180) = σ (180) := hc35.trans hk27
        have hk43 : s33 (183) = σ (183) := hc38.trans hk28
        have hg44 : ∀ a, a ≠ 5 → a ≠ 7 → a ≠ 10 → ra_g s33 179 a = ra_g σ 179 a := fun a h5 h7 h10 => ((fun a h5 h7 h10 => he39 a h5) a h5 h7 h10).trans (hg30 a h5 h7 h10)
        refine ra_load rfl rfl rfl rfl ?_
        refine ra_load rfl rfl rfl rfl ?_
        refine ra_load rfl rfl rfl rfl ?_
        refine ra_cV (sp_239 hx0 hx1 (WF_k hk42 hw) (sp_k hk42 rfl (hz23p (by omega))) (by exfalso; omega)) rfl (ct_239 rfl lk_8_391 (Or.inl rfl) sh_179 (Nat.le_of_ble_eq_true rfl)) (fun s45 hs45 => ?_)
        obtain ⟨hf46, he47, he48, he49⟩ := hs45
        have hF50 := Fr_tr (lo := 179) (hi := 191) hF41 hf46 (by omega)
        have hk51 : s45 (183) = σ (183) := (hf46 (183) (by omega)).trans hk43
        have hg52 : ∀ a, a ≠ 5 → a ≠ 7 → a ≠ 10 → ra_g s45 179 a = ra_g σ 179 a := fun a h5 h7 h10 => (ra_gk (hf46 179 (by omega))).trans (hg44 a h5 h7 h10)
        refine ra_load rfl rfl rfl rfl ?_
        refine ra_cIp (sp_234 (MV_f he47 (by have := he48; omega))) rfl (ct_234 rfl lk_8_394 (Or.inl rfl) sh_179 (Nat.le_of_ble_eq_true rfl)) (fun z54 hz54 => ?_)
        exact ra_ireturn rfl rfl ⟨⟨_, hz54, rfl⟩, ⟨hF50, hk51, hg52, he47, (PW_k he40 (ra_gk (hf46 179 (by omega))) (hf46 184 (by omega)))⟩⟩
      · refine ra_iconst rfl ?_
        exact ra_ireturn rfl rfl ⟨⟨_, (by first | omega | (unfold ra_in at *; omega)), rfl⟩, ⟨hF26, hk28, hg30, (WF_k hk27 hw), (PW_k hpw (ho31 5 (by decide) (by decide)) hk29)⟩⟩
  · refine ra_load rfl rfl rfl rfl ?_
    refine ra_load rfl rfl rfl rfl ?_
    refine ra_load rfl rfl rfl rfl ?_
    refine ra_cIPp (sp_223 hx0 hx1 (WF_k hk4 hw) (sp_k hk4 rfl (hz10p.mp (by omega)))) rfl (ct_223 rfl lk_8_183 (Or.inl rfl) sh_179 (Nat.le_of_ble_eq_true rfl)) (fun z56 hz56 hz56p => ?_)
    refine ra_ifeq rfl rfl hz56 (fun h57 => ?_) (fun h57 => ?_)
    · refine ra_iconst rfl ?_
      refine ra_iconst rfl ?_
      refine ra_cT (sp_193 (Or.inl rfl) (by first | omega | (unfold ra_in at *; omega))) rfl (ct_193 rfl lk_8_303 (Or.inl rfl) sh_179 (Nat.le_of_ble_eq_true rfl)) (fun s58 hs58 => ?_)
      obtain ⟨hf59, he60⟩ := hs58
      have hF61 := Fr_tr (lo := 179) (hi := 191) hF3 hf59 (by omega)
      have hk62 : s58 (180) = σ (180) := (hf59 (180) (by omega)).trans hk4
      have hk63 : s58 (183) = σ (183) := (hf59 (183) (by omega)).trans hk5
      have hk64 : s58 (184) = σ (184) := (hf59 (184) (by omega)).trans hk6
      have hg65 : ∀ a, a ≠ 5 → a ≠ 7 → a ≠ 10 → ra_g s58 179 a = ra_g σ 179 a := fun a h5 h7 h10 => ((fun a h7 h10 => he60 a h7) a h7 h10).trans (hg7 a h5 h7 h10)
      have ho66 : ∀ a, a ≠ 7 → a ≠ 10 → ra_g s58 179 a = ra_g σ 179 a := fun a h7 h10 => ((fun a h7 h10 => he60 a h7) a h7 h10).trans (ho8 a h7 h10)
      refine ra_ifne rfl rfl (by first | omega | (unfold ra_in at *; omega)) (fun h67 => ?_) (fun h67 => ?_)
      · exact absurd h67 (by decide)
      · refine ra_load rfl rfl rfl rfl ?_
        refine ra_load rfl rfl rfl rfl ?_
        refine ra_iconst rfl ?_
        refine ra_cQP (sp_267 hx0 (by first | omega | (unfold ra_in at *; omega))) rfl (ct_267 rfl lk_8_318 (Or.inl rfl) sh_179 (Nat.le_of_ble_eq_true rfl)) (fun z69 s68 hz69 hz69p hs68 => ?_)
        rw [wq_k hk62] at hz69p
        obtain ⟨hf70, he71⟩ := hs68
        have hF72 := Fr_tr (lo := 179) (hi := 191) hF61 hf70 (by omega)
        have hk73 : s68 (180) = σ (180) := (hf70 (180) (by omega)).trans hk62
        have hk74 : s68 (183) = σ (183) := (hf70 (183) (by omega)).trans hk63
        have hk75 : s68 (184) = σ (184) := (hf70 (184) (by omega)).trans hk64
        have hg76 : ∀ a, a ≠ 5 → a ≠ 7 → a ≠ 10 → ra_g s68 179 a = ra_g σ 179 a := fun a h5 h7 h10 => ((fun a h7 h10 => he71 a h7) a h7 h10).trans (hg65 a h5 h7 h10)
        have ho77 : ∀ a, a ≠ 7 → a ≠ 10 → ra_g s68 179 a = ra_g σ 179 a := fun a h7 h10 => ((fun a h7 h10 => he71 a h7) a h7 h10).trans (ho66 a h7 h10)
        refine ra_ifeq rfl rfl (ra_in01 hz69) (fun h78 => ?_) (fun h78 => ?_)
        · refine ra_load rfl rfl rfl rfl ?_
          have hp := hz69p (by omega)
          have hst := hz10p.mpr hp
          have hq := WF_p hw hp.1 hp.2.1 hp.2.2
          have hk := mok_k hk4 (hz56p (by omega))
          refine ra_cV (sp_196 (WF_k hk73 hw) (PW_k hpw (ho77 5 (by decide) (by decide)) hk75)) rfl (ct_196 rfl lk_8_366 (Or.inl rfl) sh_179 (Nat.le_of_ble_eq_true rfl)) (fun s79 hs79 => ?_)
          obtain ⟨hf80, hc81, hc82, hc83, hc84, he85, he86⟩ := hs79
          have hF87 := Fr_tr (lo := 179) (hi := 191) hF72 hf80 (by omega)
          have hk88 : s79 (180) = σ (180) := hc81.trans hk73
          have hk89 : s79 (183) = σ (183) := hc84.trans hk74
          have hg90 : ∀ a, a ≠ 5 → a ≠ 7 → a ≠ 10 → ra_g s79 179 a = ra_g σ 179 a := fun a h5 h7 h10 => ((fun a h5 h7 h10 => he85 a h5) a h5 h7 h10).trans (hg76 a h5 h7 h10)
          refine ra_load rfl rfl rfl rfl ?_
          refine ra_load rfl rfl rfl rfl ?_
          refine ra_load rfl rfl rfl rfl ?_
          refine ra_cV (sp_239 hx0 hx1 (WF_k hk88 hw) (sp_k hk88 rfl (hz69p (by omega))) (mok_k hk88.symm hk)) rfl (ct_239 rfl lk_8_391 (Or.inl rfl) sh_179 (Nat.le_of_ble_eq_true rfl)) (fun s91 hs91 => ?_)
          obtain ⟨hf92, he93, he94, he95⟩ := hs91
          have hF96 := Fr_tr (lo := 179) (hi := 191) hF87 hf92 (by omega)
          have hk97 : s91 (183) = σ (183) := (hf92 (183) (by omega)).trans hk89
          have hg98 : ∀ a, a ≠ 5 → a ≠ 7 → a ≠ 10 → ra_g s91 179 a = ra_g σ 179 a := fun a h5 h7 h10 => (ra_gk (hf92 179 (by omega))).trans (hg90 a h5 h7 h10)
          refine ra_load rfl rfl rfl rfl ?_
          refine ra_cIp (sp_234 (MV_f he93 (by have := he94; omega))) rfl (ct_234 rfl lk_8_394 (Or.inl rfl) sh_179 (Nat.le_of_ble_eq_true rfl)) (fun z100 hz100 => ?_)
          exact ra_ireturn rfl rfl ⟨⟨_, hz100, rfl⟩, ⟨hF96, hk97, hg98, he93, (PW_k he86 (ra_gk (hf92 179 (by omega))) (hf92 184 (by omega)))⟩⟩
        · refine ra_iconst rfl ?_
          exact ra_ireturn rfl rfl ⟨⟨_, (by first | omega | (unfold ra_in at *; omega)), rfl⟩, ⟨hF72, hk74, hg76, (WF_k hk73 hw), (PW_k hpw (ho77 5 (by decide) (by decide)) hk75)⟩⟩
    · refine ra_iconst rfl ?_
      refine ra_goto rfl rfl ?_
      refine ra_iconst rfl ?_
      refine ra_cT (sp_193 (Or.inr rfl) (by first | omega | (unfold ra_in at *; omega))) rfl (ct_193 rfl lk_8_303 (Or.inl rfl) sh_179 (Nat.le_of_ble_eq_true rfl)) (fun s101 hs101 => ?_)
      obtain ⟨hf102, he103⟩ := hs101
      have hF104 := Fr_tr (lo := 179) (hi := 191) hF3 hf102 (by omega)
      have hk105 : s101 (180) = σ (180) := (hf102 (180) (by omega)).trans hk4
      have hk106 : s101 (183) = σ (183) := (hf102 (183) (by omega)).trans hk5
      have hk107 : s101 (184) = σ (184) := (hf102 (184) (by omega)).trans hk6
      have hg108 : ∀ a, a ≠ 5 → a ≠ 7 → a ≠ 10 → ra_g s101 179 a = ra_g σ 179 a := fun a h5 h7 h10 => ((fun a h7 h10 => he103 a h7) a h7 h10).trans (hg7 a h5 h7 h10)
      have ho109 : ∀ a, a ≠ 7 → a ≠ 10 → ra_g s101 179 a = ra_g σ 179 a := fun a h7 h10 => ((fun a h7 h10 => he103 a h7) a h7 h10).trans (ho8 a h7 h10)
      refine ra_ifne rfl rfl (by first | omega | (unfold ra_in at *; omega)) (fun h110 => ?_) (fun h110 => ?_)
      · refine ra_iconst rfl ?_
        exact ra_ireturn rfl rfl ⟨⟨_, (by first | omega | (unfold ra_in at *; omega)), rfl⟩, ⟨hF104, hk106, hg108, (WF_k hk105 hw), (PW_k hpw (ho109 5 (by decide) (by decide)) hk107)⟩⟩
      · exact absurd h110 (by decide)
end RB
