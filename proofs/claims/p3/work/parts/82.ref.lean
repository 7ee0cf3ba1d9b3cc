/-! the reference: what its methods do (printed by wip/gen/ref.py) -/
section RB
theorem sp_239 {n : Nat} {f : Nat → Int32} {d : Nat} {x0 : Int} {x1 : Int} {σ : ra_V} (hx0 : ra_in x0) (hx1 : ra_in x1) (hw : WF σ) (hp : 0 ≤ x0 ∧ x0 < 8 ∧ wq σ x0 0 = 1) (hk : MOK σ x0 x1) : ra_C (g_Gs n f) g_sh 0 (d + 4) 239 [.index (179), ra_I x0, ra_I x1] σ (fun r s => rV r ∧ Fr (180) (181) σ s ∧ WF s ∧ ra_g s 180 16 = x0) := by
  refine ra_enter (nn := 2) mt_239 rfl (Nat.le_of_ble_eq_true rfl) rfl ?_
  have hw0 := WF_a hw
  unfold WFa at hw0
  have hq := WF_p hw hp.1 hp.2.1 hp.2.2
  have hu := hk.2.2.1
  unfold US at hu
  refine ra_load rfl rfl rfl rfl ?_
  refine ra_getR rfl lk_8_7 (Nat.zero_le _) sh_179 rfl ?_
  refine ra_iconst rfl ?_
  refine ra_ialoadJ (j := 4) rfl sh_180 rfl (by decide) rfl (by decide) ?_
  have hr1 : ra_in (ra_g σ (180) 4) := (ra_in_g _ _ _)
  refine ra_load rfl rfl rfl rfl ?_
  refine ra_load rfl rfl rfl rfl ?_
  refine ra_iconst rfl ?_
  refine ra_cTp (sp_199 hx0 (by first | omega | (unfold ra_in at *; omega)) (by first | assumption | rfl | omega)) rfl (ct_199 rfl lk_8_67 (Or.inl rfl) sh_179 (Nat.le_of_ble_eq_true rfl)) ?_
  have hr3 : ra_in (wq σ x0 (2)) := (ra_in_wq _ _ _)
  refine ra_min rfl lk_8_90 hr1 hr3 (Nat.le_of_ble_eq_true rfl) ?_
  refine ra_store (L' := [_, _, _, _, _]) rfl rfl rfl (Nat.le_of_ble_eq_true rfl) rfl ?_
  refine ra_load rfl rfl rfl rfl ?_
  refine ra_load rfl rfl rfl rfl ?_
  refine ra_load rfl rfl rfl rfl ?_
  refine ra_iconst rfl ?_
  refine ra_cTp (sp_199 hx0 (by first | omega | (unfold ra_in at *; omega)) (by first | assumption | rfl | omega)) rfl (ct_199 rfl lk_8_67 (Or.inl rfl) sh_179 (Nat.le_of_ble_eq_true rfl)) ?_
  have hr5 : ra_in (wq σ x0 (1)) := (ra_in_wq _ _ _)
  refine ra_load rfl rfl rfl rfl ?_
  refine ra_cTp (sp_224 hr5 hx1 (by first | assumption | rfl | omega)) rfl (ct_224 rfl lk_8_136 (Or.inl rfl) (Nat.le_of_ble_eq_true rfl)) ?_
  have hf7 := rfar_b (wq σ x0 (1)) x1
  have hr8 : ra_in (rfar (wq σ x0 (1)) x1) := (by first | omega | (unfold ra_in at *; omega))
  refine ra_icle rfl rfl (by first | omega | (unfold ra_in at *; omega)) hr8 (fun h9 => ?_) (fun h9 => ?_)
  · refine ra_iconst rfl ?_
    refine ra_store (L' := [_, _, _, _, _]) rfl rfl rfl (Nat.le_of_ble_eq_true rfl) rfl ?_
    refine ra_load rfl rfl rfl rfl ?_
    refine ra_getR rfl lk_8_7 (Nat.zero_le _) sh_179 rfl ?_
    refine ra_bipush rfl (by decide) ?_
    refine ra_load rfl rfl rfl rfl ?_
    refine ra_iastoreJ (j := 16) rfl sh_180 rfl (by decide) rfl (by decide) ?_
    refine ra_newR hx0 (fun s10 hs10 hs10v hs10o => ?_)
    have hF11 := Fr_tr (lo := 180) (hi := 181) Fr_rf hs10 (by omega)
    refine ra_load rfl rfl rfl rfl ?_
    refine ra_getR rfl lk_8_7 (Nat.zero_le _) sh_179 rfl ?_
    refine ra_bipush rfl (by decide) ?_
    refine ra_load rfl rfl rfl rfl ?_
    refine ra_load rfl rfl rfl rfl ?_
    refine ra_iconst rfl ?_
    refine ra_cTp (sp_199 hx0 (by first | omega | (unfold ra_in at *; omega)) (by first | assumption | rfl | omega)) rfl (ct_199 rfl lk_8_67 (Or.inl rfl) sh_179 (Nat.le_of_ble_eq_true rfl)) ?_
    have hr13 : ra_in (wq s10 x0 (1)) := (ra_in_wq _ _ _)
    refine ra_iastoreJ (j := 17) rfl sh_180 rfl (by decide) rfl (by decide) ?_
    refine ra_newR hr13 (fun s14 hs14 hs14v hs14o => ?_)
    have hF15 := Fr_tr (lo := 180) (hi := 181) hF11 hs14 (by omega)
    refine ra_load rfl rfl rfl rfl ?_
    refine ra_getR rfl lk_8_7 (Nat.zero_le _) sh_179 rfl ?_
    refine ra_bipush rfl (by decide) ?_
    refine ra_load rfl rfl rfl rfl ?_
    refine ra_iastoreJ (j := 18) rfl sh_180 rfl (by decide) rfl (by decide) ?_
    refine ra_newR hx1 (fun s16 hs16 hs16v hs16o => ?_)
    have hF17 := Fr_tr (lo := 180) (hi := 181) hF15 hs16 (by omega)
    refine ra_load rfl rfl rfl rfl ?_
    refine ra_getR rfl lk_8_7 (Nat.zero_le _) sh_179 rfl ?_
    refine ra_bipush rfl (by decide) ?_
    refine ra_load rfl rfl rfl rfl ?_
    refine ra_getR rfl lk_8_7 (Nat.zero_le _) sh_179 rfl ?_
    refine ra_iconst rfl ?_
    refine ra_ialoadJ (j := 4) rfl sh_180 rfl (by decide) rfl (by decide) ?_
    have hr18 : ra_in (ra_g s16 (180) 4) := (ra_in_g _ _ _)
    refine ra_iastoreJ (j := 19) rfl sh_180 rfl (by decide) rfl (by decide) ?_
    refine ra_newR hr18 (fun s19 hs19 hs19v hs19o => ?_)
    have hF20 := Fr_tr (lo := 180) (hi := 181) hF17 hs19 (by omega)
    refine ra_load rfl rfl rfl rfl ?_
    refine ra_getR rfl lk_8_7 (Nat.zero_le _) sh_179 rfl ?_
    refine ra_bipush rfl (by decide) ?_
    refine ra_load rfl rfl rfl rfl ?_
    refine ra_iastoreJ (j := 20) rfl sh_180 rfl (by decide) rfl (by decide) ?_
    refine ra_newR (by first | omega | (unfold ra_in at *; omega)) (fun s21 hs21 hs21v hs21o => ?_)
    have hF22 := Fr_tr (lo := 180) (hi := 181) hF20 hs21 (by omega)
    refine ra_load rfl rfl rfl rfl ?_
    refine ra_getR rfl lk_8_7 (Nat.zero_le _) sh_179 rfl ?_
    refine ra_bipush rfl (by decide) ?_
    refine ra_iconst rfl ?_
    refine ra_iastoreJ (j := 21) rfl sh_180 rfl (by decide) rfl (by decide) ?_
    refine ra_newR (by first | omega | (unfold ra_in at *; omega)) (fun s23 hs23 hs23v hs23o => ?_)
    have hF24 := Fr_tr (lo := 180) (hi := 181) hF22 hs23 (by omega)
    refine ra_load rfl rfl rfl rfl ?_
    refine ra_getR rfl lk_8_7 (Nat.zero_le _) sh_179 rfl ?_
    refine ra_bipush rfl (by decide) ?_
    refine ra_iconst rfl ?_
    refine ra_iastoreJ (j := 22) rfl sh_180 rfl (by decide) rfl (by decide) ?_
    refine ra_newR (by first | omega | (unfold ra_in at *; omega)) (fun s25 hs25 hs25v hs25o => ?_)
    have hF26 := Fr_tr (lo := 180) (hi := 181) hF24 hs25 (by omega)
    exact ra_return rfl rfl ⟨rfl, (by have q := st_ch hw hp hk hs10v hs10o hs14v hs14o hs16v hs16o hs19v hs19o hs21v hs21o hs23v hs23o hs25v hs25o ⟨⟨by omega, by omega⟩, fun _ => by omega⟩; exact ⟨hF26, q⟩)⟩
  · refine ra_load rfl rfl rfl rfl ?_
    refine ra_load rfl rfl rfl rfl ?_
    refine ra_load rfl rfl rfl rfl ?_
    refine ra_load rfl rfl rfl rfl ?_
    refine ra_cIPp (sp_222 hx0 hx1 (by first | omega | (unfold ra_in at *; omega)) (WF_a hw) (by first | assumption | rfl | omega)) rfl (ct_222 rfl lk_8_139 (Or.inl rfl) sh_179 (Nat.le_of_ble_eq_true rfl)) (fun z28 hz28 hz28p => ?_)
    refine ra_goto rfl rfl ?_
    refine ra_store (L' := [_, _, _, _, _]) rfl rfl rfl (Nat.le_of_ble_eq_true rfl) rfl ?_
    refine ra_load rfl rfl rfl rfl ?_
    refine ra_getR rfl lk_8_7 (Nat.zero_le _) sh_179 rfl ?_
    refine ra_bipush rfl (by decide) ?_
    refine ra_load rfl rfl rfl rfl ?_
    refine ra_iastoreJ (j := 16) rfl sh_180 rfl (by decide) rfl (by decide) ?_
    refine ra_newR hx0 (fun s29 hs29 hs29v hs29o => ?_)
    have hF30 := Fr_tr (lo := 180) (hi := 181) Fr_rf hs29 (by omega)
    refine ra_load rfl rfl rfl rfl ?_
    refine ra_getR rfl lk_8_7 (Nat.zero_le _) sh_179 rfl ?_
    refine ra_bipush rfl (by decide) ?_
    refine ra_load rfl rfl rfl rfl ?_
    refine ra_load rfl rfl rfl rfl ?_
    refine ra_iconst rfl ?_
    refine ra_cTp (sp_199 hx0 (by first | omega | (unfold ra_in at *; omega)) (by first | assumption | rfl | omega)) rfl (ct_199 rfl lk_8_67 (Or.inl rfl) sh_179 (Nat.le_of_ble_eq_true rfl)) ?_
    have hr32 : ra_in (wq s29 x0 (1)) := (ra_in_wq _ _ _)
    refine ra_iastoreJ (j := 17) rfl sh_180 rfl (by decide) rfl (by decide) ?_
    refine ra_newR hr32 (fun s33 hs33 hs33v hs33o => ?_)
    have hF34 := Fr_tr (lo := 180) (hi := 181) hF30 hs33 (by omega)
    refine ra_load rfl rfl rfl rfl ?_
    refine ra_getR rfl lk_8_7 (Nat.zero_le _) sh_179 rfl ?_
    refine ra_bipush rfl (by decide) ?_
    refine ra_load rfl rfl rfl rfl ?_
    refine ra_iastoreJ (j := 18) rfl sh_180 rfl (by decide) rfl (by decide) ?_
    refine ra_newR hx1 (fun s35 hs35 hs35v hs35o => ?_)
    have hF36 := Fr_tr (lo := 180) (hi := 181) hF34 hs35 (by omega)
    refine ra_load rfl rfl rfl rfl ?_
    refine ra_getR rfl lk_8_7 (Nat.zero_le _) sh_179 rfl ?_
    refine ra_bipush rfl (by decide) ?_
    refine ra_load rfl rfl rfl rfl ?_
    refine ra_getR rfl lk_8_7 (Nat.zero_le _) sh_179 rfl ?_
    refine ra_iconst rfl ?_
    refine ra_ialoadJ (j := 4) rfl sh_180 rfl (by decide) rfl (by decide) ?_
    have hr37 : ra_in (ra_g s35 (180) 4) := (ra_in_g _ _ _)
    refine ra_iastoreJ (j := 19) rfl sh_180 rfl (by decide) rfl (by decide) ?_
    refine ra_newR hr37 (fun s38 hs38 hs38v hs38o => ?_)
    have hF39 := Fr_tr (lo := 180) (hi := 181) hF36 hs38 (by omega)
    refine ra_load rfl rfl rfl rfl ?_
    refine ra_getR rfl lk_8_7 (Nat.zero_le _) sh_179 rfl ?_
    refine ra_bipush rfl (by decide) ?_
    refine ra_load rfl rfl rfl rfl ?_
    refine ra_iastoreJ (j := 20) rfl sh_180 rfl (by decide) rfl (by decide) ?_
    refine ra_newR hz28 (fun s40 hs40 hs40v hs40o => ?_)
    have hF41 := Fr_tr (lo := 180) (hi := 181) hF39 hs40 (by omega)
    refine ra_load rfl rfl rfl rfl ?_
    refine ra_getR rfl lk_8_7 (Nat.zero_le _) sh_179 rfl ?_
    refine ra_bipush rfl (by decide) ?_
    refine ra_iconst rfl ?_
    refine ra_iastoreJ (j := 21) rfl sh_180 rfl (by decide) rfl (by decide) ?_
    refine ra_newR (by first | omega | (unfold ra_in at *; omega)) (fun s42 hs42 hs42v hs42o => ?_)
    have hF43 := Fr_tr (lo := 180) (hi := 181) hF41 hs42 (by omega)
    refine ra_load rfl rfl rfl rfl ?_
    refine ra_getR rfl lk_8_7 (Nat.zero_le _) sh_179 rfl ?_
    refine ra_bipush rfl (by decide) ?_
    refine ra_iconst rfl ?_
    refine ra_iastoreJ (j := 22) rfl sh_180 rfl (by decide) rfl (by decide) ?_
    refine ra_newR (by first | omega | (unfold ra_in at *; omega)) (fun s44 hs44 hs44v hs44o => ?_)
    have hF45 := Fr_tr (lo := 180) (hi := 181) hF43 hs44 (by omega)
    exact ra_return rfl rfl ⟨rfl, (by have q := st_ch hw hp hk hs29v hs29o hs33v hs33o hs35v hs35o hs38v hs38o hs40v hs40o hs42v hs42o hs44v hs44o (sc_ok hw hk rfl (by omega) hz28p); exact ⟨hF45, q⟩)⟩
theorem sp_317 {n : Nat} {f : Nat → Int32} {d : Nat} {x0 : Int} {x1 : Int} {σ : ra_V} (hx0 : ra_in x0) (hx1 : ra_in x1) (hw : WF σ) (hpw : PW σ) : ra_C (g_Gs n f) g_sh 0 (d + 5) 317 [.index (179), ra_I x0, ra_I x1] σ (fun r s => rI r ∧ Fr (179) (191) σ s ∧ s (183) = σ (183) ∧ (∀ a, a ≠ 5 → a ≠ 7 → a ≠ 10 → ra_g s 179 a = ra_g σ 179 a) ∧ WF s ∧ PW s) := by
  refine ra_enter (nn := 0) mt_317 rfl (Nat.le_of_ble_eq_true rfl) rfl ?_
  have hw0 := WF_a hw
  unfold WFa at hw0
  refine ra_load rfl rfl rfl rfl ?_
  refine ra_iconst rfl ?_
  refine ra_putI rfl lk_8_51 (Nat.zero_le _) sh_179 rfl rfl ?_
  refine ra_newU (by first | omega | (unfold ra_in at *; omega)) (fun s1 hs1 hp2 hp2o => ?_)
  have hp2_99 := hp2o 99 (by decide)
  have hF3 := Fr_tr (lo := 179) (hi := 191) Fr_rf hs1 (by omega)
  have hk4 : s1 (180) = σ (180) := (hs1 (180) (by omega))
  have hk5 : s1 (183) = σ (183) := (hs1 (183) (by omega))
  have hk6 : s1 (184) = σ (184) := (hs1 (184) (by omega))
  have hg7 : ∀ a, a ≠ 5 → a ≠ 7 → a ≠ 10 → ra_g s1 179 a = ra_g σ 179 a := fun a h5 h7 h10 => ((fun a h7 h10 => hp2o a h7) a h7 h10).trans ((fun _ _ _ _ => rfl) a h5 h7 h10)
  have ho8 : ∀ a, a ≠ 7 → a ≠ 10 → ra_g s1 179 a = ra_g σ 179 a := fun a h7 h10 => ((fun a h7 h10 => hp2o a h7) a h7 h10).trans ((fun _ _ _ => rfl) a h7 h10)
  refine ra_load rfl rfl rfl rfl ?_
  refine ra_load rfl rfl rfl rfl ?_
  refine ra_load rfl rfl rfl rfl ?_
  refine ra_cQPp (sp_201 hx0) rfl (ct_201 rfl lk_8_313 (Or.inl rfl) sh_179 (Nat.le_of_ble_eq_true rfl)) (fun z10 hz10 hz10p => ?_)
  rw [wq_k hk4] at hz10p
  refine ra_ifeq rfl rfl (ra_in01 hz10) (fun h11 => ?_) (fun h11 => ?_)
  · refine ra_iconst rfl ?_
    refine ra_iconst rfl ?_
    refine ra_cT (sp_193 (Or.inl rfl) (by first | omega | (unfold ra_in at *; omega))) rfl (ct_193 rfl lk_8_303 (Or.inl rfl) sh_179 (Nat.le_of_ble_eq_true rfl)) (fun s12 hs12 => ?_)
    obtain ⟨hf13, he14⟩ := hs12
    have hF15 := Fr_tr (lo := 179) (hi := 191) hF3 hf13 (by omega)
    have hk16 : s12 (180) = σ (180) := (hf13 (180) (by omega)).trans hk4
    have hk17 : s12 (183) = σ (183) := (hf13 (183) (by omega)).trans hk5
    have hk18 : s12 (184) = σ (184) := (hf13 (184) (by omega)).trans hk6
    have hg19 : ∀ a, a ≠ 5 → a ≠ 7 → a ≠ 10 → ra_g s12 179 a = ra_g σ 179 a := fun a h5 h7 h10 => ((fun a h7 h10 => he14 a h7) a h7 h10).trans (hg7 a h5 h7 h10)
    have ho20 : ∀ a, a ≠ 7 → a ≠ 10 → ra_g s12 179 a = ra_g σ 179 a := fun a h7 h10 => ((fun a h7 h10 => he14 a h7) a h7 h10).trans (ho8 a h7 h10)
    refine ra_ifne rfl rfl (by first | omega | (unfold ra_in at *; omega)) (fun h21 => ?_) (fun h21 => ?_)
    · exact absurd h21 (by decide)
    · refine ra_load rfl rfl rfl rfl ?_
      refine ra_load rfl rfl rfl rfl ?_
      refine ra_iconst rfl ?_
      refine ra_cQP (sp_267 hx0 (by first | omega | (unfold ra_in at *; omega))) rfl (ct_267 rfl lk_8_318 (Or.inl rfl) sh_179 (Nat.le_of_ble_eq_true rfl)) (fun z23 s22 hz23 hz23p hs22 => ?_)
      rw [wq_k hk16] at hz23p
      obtain ⟨hf24, he25⟩ := hs22
      have hF26 := Fr_tr (lo := 179) (hi := 191) hF15 hf24 (by omega)
      have hk27 : s22 (180) = σ (180) := (hf24 (180) (by omega)).trans hk16
      have hk28 : s22 (183) = σ (183) := (hf24 (183) (by omega)).trans hk17
      have hk29 : s22 (184) = σ (184) := (hf24 (184) (by omega)).trans hk18
      have hg30 : ∀ a, a ≠ 5 → a ≠ 7 → a ≠ 10 → ra_g s22 179 a = ra_g σ 179 a := fun a h5 h7 h10 => ((fun a h7 h10 => he25 a h7) a h7 h10).trans (hg19 a h5 h7 h10)
      have ho31 : ∀ a, a ≠ 7 → a ≠ 10 → ra_g s22 179 a = ra_g σ 179 a := fun a h7 h10 => ((fun a h7 h10 => he25 a h7) a h7 h10).trans (ho20 a h7 h10)
      refine ra_ifeq rfl rfl (ra_in01 hz23) (fun h32 => ?_) (fun h32 => ?_)
      · refine ra_load rfl rfl rfl rfl ?_
        have hp := hz23p (by omega)
        have hst := hz10p.mpr hp
        have hq := WF_p hw hp.1 hp.2.1 hp.2.2
        refine ra_cV (sp_196 (WF_k hk27 hw) (PW_k hpw (ho31 5 (by decide) (by decide)) hk29)) rfl (ct_196 rfl lk_8_366 (Or.inl rfl) sh_179 (Nat.le_of_ble_eq_true rfl)) (fun s33 hs33 => ?_)
        obtain ⟨hf34, hc35, hc36, hc37, hc38, he39, he40⟩ := hs33
        have hF41 := Fr_tr (lo := 179) (hi := 191) hF26 hf34 (by omega)
        have hk42 : s33 (180) = σ (180) := hc35.trans hk27
        have hk43 : s33 (183) = σ (183) := hc38.trans hk28
        have hg44 : ∀ a, a ≠ 5 → a ≠ 7 → a ≠ 10 → ra_g s33 179 a = ra_g σ 179 a := fun a h5 h7 h10 => ((fun a h5 h7 h10 => he39 a h5) a h5 h7 h10).trans (hg30 a h5 h7 h10)
        refine ra_load rfl rfl rfl rfl ?_
        refine ra_load rfl rfl rfl rfl ?_
        refine ra_load rfl rfl rfl rfl ?_
        refine ra_cV (sp_239 hx0 hx1 (WF_k hk42 hw) (sp_k hk42 rfl (hz23p (by omega))) (by exfalso; omega)) rfl (ct_239 rfl lk_8_391 (Or.inl rfl) sh_179 (Nat.le_of_ble_eq_true rfl)) (fun s45 hs45 => ?_)
        obtain ⟨hf46, he47, he48⟩ := hs45
        have hF49 := Fr_tr (lo := 179) (hi := 191) hF41 hf46 (by omega)
        have hk50 : s45 (183) = σ (183) := (hf46 (183) (by omega)).trans hk43
        have hg51 : ∀ a, a ≠ 5 → a ≠ 7 → a ≠ 10 → ra_g s45 179 a = ra_g σ 179 a := fun a h5 h7 h10 => (ra_gk (hf46 179 (by omega))).trans (hg44 a h5 h7 h10)
        refine ra_load rfl rfl rfl rfl ?_
        refine ra_cIp (sp_234 (MV_f he47 (by have := he48; omega))) rfl (ct_234 rfl lk_8_394 (Or.inl rfl) sh_179 (Nat.le_of_ble_eq_true rfl)) (fun z53 hz53 => ?_)
        exact ra_ireturn rfl rfl ⟨⟨_, hz53, rfl⟩, ⟨hF49, hk50, hg51, he47, (PW_k he40 (ra_gk (hf46 179 (by omega))) (hf46 184 (by omega)))⟩⟩
      · refine ra_iconst rfl ?_
        exact ra_ireturn rfl rfl ⟨⟨_, (by first | omega | (unfold ra_in at *; omega)), rfl⟩, ⟨hF26, hk28, hg30, (WF_k hk27 hw), (PW_k hpw (ho31 5 (by decide) (by decide)) hk29)⟩⟩
  · refine ra_load rfl rfl rfl rfl ?_
    refine ra_load rfl rfl rfl rfl ?_
    refine ra_load rfl rfl rfl rfl ?_
    refine ra_cIPp (sp_223 hx0 hx1 (WF_k hk4 hw) (sp_k hk4 rfl (hz10p.mp (by omega)))) rfl (ct_223 rfl lk_8_183 (Or.inl rfl) sh_179 (Nat.le_of_ble_eq_true rfl)) (fun z55 hz55 hz55p => ?_)
    refine ra_ifeq rfl rfl hz55 (fun h56 => ?_) (fun h56 => ?_)
    · refine ra_iconst rfl ?_
      refine ra_iconst rfl ?_
      refine ra_cT (sp_193 (Or.inl rfl) (by first | omega | (unfold ra_in at *; omega))) rfl (ct_193 rfl lk_8_303 (Or.inl rfl) sh_179 (Nat.le_of_ble_eq_true rfl)) (fun s57 hs57 => ?_)
      obtain ⟨hf58, he59⟩ := hs57
      have hF60 := Fr_tr (lo := 179) (hi := 191) hF3 hf58 (by omega)
      have hk61 : s57 (180) = σ (180) := (hf58 (180) (by omega)).trans hk4
      have hk62 : s57 (183) = σ (183) := (hf58 (183) (by omega)).trans hk5
      have hk63 : s57 (184) = σ (184) := (hf58 (184) (by omega)).trans hk6
      have hg64 : ∀ a, a ≠ 5 → a ≠ 7 → a ≠ 10 → ra_g s57 179 a = ra_g σ 179 a := fun a h5 h7 h10 => ((fun a h7 h10 => he59 a h7) a h7 h10).trans (hg7 a h5 h7 h10)
      have ho65 : ∀ a, a ≠ 7 → a ≠ 10 → ra_g s57 179 a = ra_g σ 179 a := fun a h7 h10 => ((fun a h7 h10 => he59 a h7) a h7 h10).trans (ho8 a h7 h10)
      refine ra_ifne rfl rfl (by first | omega | (unfold ra_in at *; omega)) (fun h66 => ?_) (fun h66 => ?_)
      · exact absurd h66 (by decide)
      · refine ra_load rfl rfl rfl rfl ?_
        refine ra_load rfl rfl rfl rfl ?_
        refine ra_iconst rfl ?_
        refine ra_cQP (sp_267 hx0 (by first | omega | (unfold ra_in at *; omega))) rfl (ct_267 rfl lk_8_318 (Or.inl rfl) sh_179 (Nat.le_of_ble_eq_true rfl)) (fun z68 s67 hz68 hz68p hs67 => ?_)
        rw [wq_k hk61] at hz68p
        obtain ⟨hf69, he70⟩ := hs67
        have hF71 := Fr_tr (lo := 179) (hi := 191) hF60 hf69 (by omega)
        have hk72 : s67 (180) = σ (180) := (hf69 (180) (by omega)).trans hk61
        have hk73 : s67 (183) = σ (183) := (hf69 (183) (by omega)).trans hk62
        have hk74 : s67 (184) = σ (184) := (hf69 (184) (by omega)).trans hk63
        have hg75 : ∀ a, a ≠ 5 → a ≠ 7 → a ≠ 10 → ra_g s67 179 a = ra_g σ 179 a := fun a h5 h7 h10 => ((fun a h7 h10 => he70 a h7) a h7 h10).trans (hg64 a h5 h7 h10)
        have ho76 : ∀ a, a ≠ 7 → a ≠ 10 → ra_g s67 179 a = ra_g σ 179 a := fun a h7 h10 => ((fun a h7 h10 => he70 a h7) a h7 h10).trans (ho65 a h7 h10)
        refine ra_ifeq rfl rfl (ra_in01 hz68) (fun h77 => ?_) (fun h77 => ?_)
        · refine ra_load rfl rfl rfl rfl ?_
          have hp := hz68p (by omega)
          have hst := hz10p.mpr hp
          have hq := WF_p hw hp.1 hp.2.1 hp.2.2
          have hk := mok_k hk4 (hz55p (by omega))
          refine ra_cV (sp_196 (WF_k hk72 hw) (PW_k hpw (ho76 5 (by decide) (by decide)) hk74)) rfl (ct_196 rfl lk_8_366 (Or.inl rfl) sh_179 (Nat.le_of_ble_eq_true rfl)) (fun s78 hs78 => ?_)
          obtain ⟨hf79, hc80, hc81, hc82, hc83, he84, he85⟩ := hs78
          have hF86 := Fr_tr (lo := 179) (hi := 191) hF71 hf79 (by omega)
          have hk87 : s78 (180) = σ (180) := hc80.trans hk72
          have hk88 : s78 (183) = σ (183) := hc83.trans hk73
          have hg89 : ∀ a, a ≠ 5 → a ≠ 7 → a ≠ 10 → ra_g s78 179 a = ra_g σ 179 a := fun a h5 h7 h10 => ((fun a h5 h7 h10 => he84 a h5) a h5 h7 h10).trans (hg75 a h5 h7 h10)
          refine ra_load rfl rfl rfl rfl ?_
          refine ra_load rfl rfl rfl rfl ?_
          refine ra_load rfl rfl rfl rfl ?_
          refine ra_cV (sp_239 hx0 hx1 (WF_k hk87 hw) (sp_k hk87 rfl (hz68p (by omega))) (mok_k hk87.symm hk)) rfl (ct_239 rfl lk_8_391 (Or.inl rfl) sh_179 (Nat.le_of_ble_eq_true rfl)) (fun s90 hs90 => ?_)
          obtain ⟨hf91, he92, he93⟩ := hs90
          have hF94 := Fr_tr (lo := 179) (hi := 191) hF86 hf91 (by omega)
          have hk95 : s90 (183) = σ (183) := (hf91 (183) (by omega)).trans hk88
          have hg96 : ∀ a, a ≠ 5 → a ≠ 7 → a ≠ 10 → ra_g s90 179 a = ra_g σ 179 a := fun a h5 h7 h10 => (ra_gk (hf91 179 (by omega))).trans (hg89 a h5 h7 h10)
          refine ra_load rfl rfl rfl rfl ?_
          refine ra_cIp (sp_234 (MV_f he92 (by have := he93; omega))) rfl (ct_234 rfl lk_8_394 (Or.inl rfl) sh_179 (Nat.le_of_ble_eq_true rfl)) (fun z98 hz98 => ?_)
          exact ra_ireturn rfl rfl ⟨⟨_, hz98, rfl⟩, ⟨hF94, hk95, hg96, he92, (PW_k he85 (ra_gk (hf91 179 (by omega))) (hf91 184 (by omega)))⟩⟩
        · refine ra_iconst rfl ?_
          exact ra_ireturn rfl rfl ⟨⟨_, (by first | omega | (unfold ra_in at *; omega)), rfl⟩, ⟨hF71, hk73, hg75, (WF_k hk72 hw), (PW_k hpw (ho76 5 (by decide) (by decide)) hk74)⟩⟩
    · refine ra_iconst rfl ?_
      refine ra_goto rfl rfl ?_
      refine ra_iconst rfl ?_
      refine ra_cT (sp_193 (Or.inr rfl) (by first | omega | (unfold ra_in at *; omega))) rfl (ct_193 rfl lk_8_303 (Or.inl rfl) sh_179 (Nat.le_of_ble_eq_true rfl)) (fun s99 hs99 => ?_)
      obtain ⟨hf100, he101⟩ := hs99
      have hF102 := Fr_tr (lo := 179) (hi := 191) hF3 hf100 (by omega)
      have hk103 : s99 (180) = σ (180) := (hf100 (180) (by omega)).trans hk4
      have hk104 : s99 (183) = σ (183) := (hf100 (183) (by omega)).trans hk5
      have hk105 : s99 (184) = σ (184) := (hf100 (184) (by omega)).trans hk6
      have hg106 : ∀ a, a ≠ 5 → a ≠ 7 → a ≠ 10 → ra_g s99 179 a = ra_g σ 179 a := fun a h5 h7 h10 => ((fun a h7 h10 => he101 a h7) a h7 h10).trans (hg7 a h5 h7 h10)
      have ho107 : ∀ a, a ≠ 7 → a ≠ 10 → ra_g s99 179 a = ra_g σ 179 a := fun a h7 h10 => ((fun a h7 h10 => he101 a h7) a h7 h10).trans (ho8 a h7 h10)
      refine ra_ifne rfl rfl (by first | omega | (unfold ra_in at *; omega)) (fun h108 => ?_) (fun h108 => ?_)
      · refine ra_iconst rfl ?_
        exact ra_ireturn rfl rfl ⟨⟨_, (by first | omega | (unfold ra_in at *; omega)), rfl⟩, ⟨hF102, hk104, hg106, (WF_k hk103 hw), (PW_k hpw (ho107 5 (by decide) (by decide)) hk105)⟩⟩
      · exact absurd h108 (by decide)
end RB
