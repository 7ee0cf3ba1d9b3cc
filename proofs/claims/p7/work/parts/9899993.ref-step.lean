/-! T5: what the reference changes (printed by wip/gen/r6.py) -/
section
theorem s5_240 {n : Nat} {f : Nat → Int32} {d : Nat} {x0 : Int} {x1 : Int} {σ : ra_V} (hx0 : ra_in x0) (hx1 : ra_in x1) (hw : WF σ) (hp : 0 ≤ x0 ∧ x0 < 8 ∧ wq σ x0 0 = 1) (hk : MOK σ x0 x1) : ra_C (g_Gs n f) g_sh 0 (d + 4) 240 [.index (179), ra_I x0, ra_I x1] σ (fun r9 s => rV r9 ∧ Fr (180) (181) σ s ∧ WF s ∧ ra_g s 180 16 = x0 ∧ (∀ p, 0 ≤ p → p < 8 → wq s p 0 = wq σ p 0) ∧ SC (x5bgV σ x0 x1) s) := by
  refine ra_enter (nn := 2) mt_240 rfl (Nat.le_of_ble_eq_true rfl) rfl (fun h => absurd h (by decide +kernel)) ?_
  have hw0 := WF_a hw
  unfold WFa at hw0
  have hq := WF_p hw hp.1 hp.2.1 hp.2.2
  have hu := hk.2.2.1
  unfold US at hu
  refine ra_load rfl rfl rfl rfl ?_
  refine ra_getR rfl lk_8_7 (Nat.zero_le _) sh_179 rfl ?_
  refine ra_iconst rfl ?_
  refine ra_ialoadJ (j := 4) rfl sh_180 rfl (by decide) rfl (by decide) ?_
  have hr1 : ra_in (ra_g σ (180) 4) := (ra_in_g _ _ _)
  refine ra_load rfl rfl rfl rfl ?_
  refine ra_load rfl rfl rfl rfl ?_
  refine ra_iconst rfl ?_
  refine ra_cTp (sp_200 hx0 (by first | omega | (unfold ra_in at *; omega)) (by first | assumption | rfl | omega)) rfl (ct_200 rfl lk_8_67 (Or.inl rfl) sh_179 (Nat.le_of_ble_eq_true rfl)) ?_
  have hr3 : ra_in (wq σ x0 (2)) := (ra_in_wq _ _ _)
  refine ra_min rfl lk_8_90 hr1 hr3 (Nat.le_of_ble_eq_true rfl) ?_
  refine ra_store (L' := [_, _, _, _, _]) rfl rfl rfl (Nat.le_of_ble_eq_true rfl) rfl ?_
  refine ra_load rfl rfl rfl rfl ?_
  refine ra_load rfl rfl rfl rfl ?_
  refine ra_load rfl rfl rfl rfl ?_
  refine ra_iconst rfl ?_
  refine ra_cTp (sp_200 hx0 (by first | omega | (unfold ra_in at *; omega)) (by first | assumption | rfl | omega)) rfl (ct_200 rfl lk_8_67 (Or.inl rfl) sh_179 (Nat.le_of_ble_eq_true rfl)) ?_
  have hr5 : ra_in (wq σ x0 (1)) := (ra_in_wq _ _ _)
  refine ra_load rfl rfl rfl rfl ?_
  refine ra_cTp (sp_225 hr5 hx1 (by first | assumption | rfl | omega)) rfl (ct_225 rfl lk_8_136 (Or.inl rfl) (Nat.le_of_ble_eq_true rfl)) ?_
  have hf7 := rfar_b (wq σ x0 (1)) x1
  have hr8 : ra_in (rfar (wq σ x0 (1)) x1) := (by first | omega | (unfold ra_in at *; omega))
  refine ra_icle rfl rfl (by first | omega | (unfold ra_in at *; omega)) hr8 (fun h9 => ?_) (fun h9 => ?_)
  · refine ra_iconst rfl ?_
    refine ra_store (L' := [_, _, _, _, _]) rfl rfl rfl (Nat.le_of_ble_eq_true rfl) rfl ?_
    refine ra_load rfl rfl rfl rfl ?_
    refine ra_getR rfl lk_8_7 (Nat.zero_le _) sh_179 rfl ?_
    refine ra_bipush rfl (by decide) ?_
    refine ra_load rfl rfl rfl rfl ?_
    refine ra_iastoreJ (j := 16) rfl sh_180 rfl (by decide) rfl (by decide) ?_
    refine ra_newR hx0 (fun s10 hs10 hs10v hs10o => ?_)
    have hF11 := Fr_tr (lo := 180) (hi := 181) Fr_rf hs10 (by omega)
    refine ra_load rfl rfl rfl rfl ?_
    refine ra_getR rfl lk_8_7 (Nat.zero_le _) sh_179 rfl ?_
    refine ra_bipush rfl (by decide) ?_
    refine ra_load rfl rfl rfl rfl ?_
    refine ra_load rfl rfl rfl rfl ?_
    refine ra_iconst rfl ?_
    refine ra_cTp (sp_200 hx0 (by first | omega | (unfold ra_in at *; omega)) (by first | assumption | rfl | omega)) rfl (ct_200 rfl lk_8_67 (Or.inl rfl) sh_179 (Nat.le_of_ble_eq_true rfl)) ?_
    have hr13 : ra_in (wq s10 x0 (1)) := (ra_in_wq _ _ _)
    refine ra_iastoreJ (j := 17) rfl sh_180 rfl (by decide) rfl (by decide) ?_
    refine ra_newR hr13 (fun s14 hs14 hs14v hs14o => ?_)
    have hF15 := Fr_tr (lo := 180) (hi := 181) hF11 hs14 (by omega)
    refine ra_load rfl rfl rfl rfl ?_
    refine ra_getR rfl lk_8_7 (Nat.zero_le _) sh_179 rfl ?_
    refine ra_bipush rfl (by decide) ?_
    refine ra_load rfl rfl rfl rfl ?_
    refine ra_iastoreJ (j := 18) rfl sh_180 rfl (by decide) rfl (by decide) ?_
    refine ra_newR hx1 (fun s16 hs16 hs16v hs16o => ?_)
    have hF17 := Fr_tr (lo := 180) (hi := 181) hF15 hs16 (by omega)
    refine ra_load rfl rfl rfl rfl ?_
    refine ra_getR rfl lk_8_7 (Nat.zero_le _) sh_179 rfl ?_
    refine ra_bipush rfl (by decide) ?_
    refine ra_load rfl rfl rfl rfl ?_
    refine ra_getR rfl lk_8_7 (Nat.zero_le _) sh_179 rfl ?_
    refine ra_iconst rfl ?_
    refine ra_ialoadJ (j := 4) rfl sh_180 rfl (by decide) rfl (by decide) ?_
    have hr18 : ra_in (ra_g s16 (180) 4) := (ra_in_g _ _ _)
    refine ra_iastoreJ (j := 19) rfl sh_180 rfl (by decide) rfl (by decide) ?_
    refine ra_newR hr18 (fun s19 hs19 hs19v hs19o => ?_)
    have hF20 := Fr_tr (lo := 180) (hi := 181) hF17 hs19 (by omega)
    refine ra_load rfl rfl rfl rfl ?_
    refine ra_getR rfl lk_8_7 (Nat.zero_le _) sh_179 rfl ?_
    refine ra_bipush rfl (by decide) ?_
    refine ra_load rfl rfl rfl rfl ?_
    refine ra_iastoreJ (j := 20) rfl sh_180 rfl (by decide) rfl (by decide) ?_
    refine ra_newR (by first | omega | (unfold ra_in at *; omega)) (fun s21 hs21 hs21v hs21o => ?_)
    have hF22 := Fr_tr (lo := 180) (hi := 181) hF20 hs21 (by omega)
    refine ra_load rfl rfl rfl rfl ?_
    refine ra_getR rfl lk_8_7 (Nat.zero_le _) sh_179 rfl ?_
    refine ra_bipush rfl (by decide) ?_
    refine ra_iconst rfl ?_
    refine ra_iastoreJ (j := 21) rfl sh_180 rfl (by decide) rfl (by decide) ?_
    refine ra_newR (by first | omega | (unfold ra_in at *; omega)) (fun s23 hs23 hs23v hs23o => ?_)
    have hF24 := Fr_tr (lo := 180) (hi := 181) hF22 hs23 (by omega)
    refine ra_load rfl rfl rfl rfl ?_
    refine ra_getR rfl lk_8_7 (Nat.zero_le _) sh_179 rfl ?_
    refine ra_bipush rfl (by decide) ?_
    refine ra_iconst rfl ?_
    refine ra_iastoreJ (j := 22) rfl sh_180 rfl (by decide) rfl (by decide) ?_
    refine ra_newR (by first | omega | (unfold ra_in at *; omega)) (fun s25 hs25 hs25v hs25o => ?_)
    have hF26 := Fr_tr (lo := 180) (hi := 181) hF24 hs25 (by omega)
    exact ra_return rfl rfl ⟨rfl, (by have q := st_ch hw hp hk hs10v hs10o hs14v hs14o hs16v hs16o hs19v hs19o hs21v hs21o hs23v hs23o hs25v hs25o ⟨⟨by omega, by omega⟩, fun _ => by omega⟩; exact ⟨hF26, q.1, q.2, (fun p p0 p1 => ((hs25o _ (by omega)).trans ((hs23o _ (by omega)).trans ((hs21o _ (by omega)).trans ((hs19o _ (by omega)).trans ((hs16o _ (by omega)).trans ((hs14o _ (by omega)).trans (hs10o _ (by omega))))))))), (x5sc_up (x5sc_up (x5sc_up (x5sc_up (x5sc_up (x5sc_up (x5sc_up SC_rf hs10v hs10o) (hs14v.trans (hs10o _ (by omega))) hs14o) hs16v hs16o) (hs19v.trans ((hs16o 4 (by decide)).trans ((hs14o 4 (by decide)).trans (hs10o 4 (by decide))))) hs19o) (hs21v.trans (x5scl_n (by omega))) hs21o) hs23v hs23o) hs25v hs25o)⟩)⟩
  · refine ra_load rfl rfl rfl rfl ?_
    refine ra_load rfl rfl rfl rfl ?_
    refine ra_load rfl rfl rfl rfl ?_
    refine ra_load rfl rfl rfl rfl ?_
    refine ra_cIPp (s6_223 hx0 hx1 (by first | omega | (unfold ra_in at *; omega)) (WF_a hw) (by first | assumption | rfl | omega)) rfl (ct_223 rfl lk_8_139 (Or.inl rfl) sh_179 (Nat.le_of_ble_eq_true rfl)) (fun z28 hz28 hz28p => ?_)
    have hz28o := hz28p.1
    have hz28q := hz28p.2
    clear hz28p
    refine ra_goto rfl rfl ?_
    refine ra_store (L' := [_, _, _, _, _]) rfl rfl rfl (Nat.le_of_ble_eq_true rfl) rfl ?_
    refine ra_load rfl rfl rfl rfl ?_
    refine ra_getR rfl lk_8_7 (Nat.zero_le _) sh_179 rfl ?_
    refine ra_bipush rfl (by decide) ?_
    refine ra_load rfl rfl rfl rfl ?_
    refine ra_iastoreJ (j := 16) rfl sh_180 rfl (by decide) rfl (by decide) ?_
    refine ra_newR hx0 (fun s29 hs29 hs29v hs29o => ?_)
    have hF30 := Fr_tr (lo := 180) (hi := 181) Fr_rf hs29 (by omega)
    refine ra_load rfl rfl rfl rfl ?_
    refine ra_getR rfl lk_8_7 (Nat.zero_le _) sh_179 rfl ?_
    refine ra_bipush rfl (by decide) ?_
    refine ra_load rfl rfl rfl rfl ?_
    refine ra_load rfl rfl rfl rfl ?_
    refine ra_iconst rfl ?_
    refine ra_cTp (sp_200 hx0 (by first | omega | (unfold ra_in at *; omega)) (by first | assumption | rfl | omega)) rfl (ct_200 rfl lk_8_67 (Or.inl rfl) sh_179 (Nat.le_of_ble_eq_true rfl)) ?_
    have hr32 : ra_in (wq s29 x0 (1)) := (ra_in_wq _ _ _)
    refine ra_iastoreJ (j := 17) rfl sh_180 rfl (by decide) rfl (by decide) ?_
    refine ra_newR hr32 (fun s33 hs33 hs33v hs33o => ?_)
    have hF34 := Fr_tr (lo := 180) (hi := 181) hF30 hs33 (by omega)
    refine ra_load rfl rfl rfl rfl ?_
    refine ra_getR rfl lk_8_7 (Nat.zero_le _) sh_179 rfl ?_
    refine ra_bipush rfl (by decide) ?_
    refine ra_load rfl rfl rfl rfl ?_
    refine ra_iastoreJ (j := 18) rfl sh_180 rfl (by decide) rfl (by decide) ?_
    refine ra_newR hx1 (fun s35 hs35 hs35v hs35o => ?_)
    have hF36 := Fr_tr (lo := 180) (hi := 181) hF34 hs35 (by omega)
    refine ra_load rfl rfl rfl rfl ?_
    refine ra_getR rfl lk_8_7 (Nat.zero_le _) sh_179 rfl ?_
    refine ra_bipush rfl (by decide) ?_
    refine ra_load rfl rfl rfl rfl ?_
    refine ra_getR rfl lk_8_7 (Nat.zero_le _) sh_179 rfl ?_
    refine ra_iconst rfl ?_
    refine ra_ialoadJ (j := 4) rfl sh_180 rfl (by decide) rfl (by decide) ?_
    have hr37 : ra_in (ra_g s35 (180) 4) := (ra_in_g _ _ _)
    refine ra_iastoreJ (j := 19) rfl sh_180 rfl (by decide) rfl (by decide) ?_
    refine ra_newR hr37 (fun s38 hs38 hs38v hs38o => ?_)
    have hF39 := Fr_tr (lo := 180) (hi := 181) hF36 hs38 (by omega)
    refine ra_load rfl rfl rfl rfl ?_
    refine ra_getR rfl lk_8_7 (Nat.zero_le _) sh_179 rfl ?_
    refine ra_bipush rfl (by decide) ?_
    refine ra_load rfl rfl rfl rfl ?_
    refine ra_iastoreJ (j := 20) rfl sh_180 rfl (by decide) rfl (by decide) ?_
    refine ra_newR hz28 (fun s40 hs40 hs40v hs40o => ?_)
    have hF41 := Fr_tr (lo := 180) (hi := 181) hF39 hs40 (by omega)
    refine ra_load rfl rfl rfl rfl ?_
    refine ra_getR rfl lk_8_7 (Nat.zero_le _) sh_179 rfl ?_
    refine ra_bipush rfl (by decide) ?_
    refine ra_iconst rfl ?_
    refine ra_iastoreJ (j := 21) rfl sh_180 rfl (by decide) rfl (by decide) ?_
    refine ra_newR (by first | omega | (unfold ra_in at *; omega)) (fun s42 hs42 hs42v hs42o => ?_)
    have hF43 := Fr_tr (lo := 180) (hi := 181) hF41 hs42 (by omega)
    refine ra_load rfl rfl rfl rfl ?_
    refine ra_getR rfl lk_8_7 (Nat.zero_le _) sh_179 rfl ?_
    refine ra_bipush rfl (by decide) ?_
    refine ra_iconst rfl ?_
    refine ra_iastoreJ (j := 22) rfl sh_180 rfl (by decide) rfl (by decide) ?_
    refine ra_newR (by first | omega | (unfold ra_in at *; omega)) (fun s44 hs44 hs44v hs44o => ?_)
    have hF45 := Fr_tr (lo := 180) (hi := 181) hF43 hs44 (by omega)
    exact ra_return rfl rfl ⟨rfl, (by have q := st_ch hw hp hk hs29v hs29o hs33v hs33o hs35v hs35o hs38v hs38o hs40v hs40o hs42v hs42o hs44v hs44o (sc_ok hw hk rfl (by omega) hz28o); exact ⟨hF45, q.1, q.2, (fun p p0 p1 => ((hs44o _ (by omega)).trans ((hs42o _ (by omega)).trans ((hs40o _ (by omega)).trans ((hs38o _ (by omega)).trans ((hs35o _ (by omega)).trans ((hs33o _ (by omega)).trans (hs29o _ (by omega))))))))), (x5sc_up (x5sc_up (x5sc_up (x5sc_up (x5sc_up (x5sc_up (x5sc_up SC_rf hs29v hs29o) (hs33v.trans (hs29o _ (by omega))) hs33o) hs35v hs35o) (hs38v.trans ((hs35o 4 (by decide)).trans ((hs33o 4 (by decide)).trans (hs29o 4 (by decide))))) hs38o) (hs40v.trans (x5scl_y (by omega) hz28q)) hs40o) hs42v hs42o) hs44v hs44o)⟩)⟩
theorem s5_241 {n : Nat} {f : Nat → Int32} {d : Nat}  {σ : ra_V} (hmf : MF σ) (hw : WF σ) : ra_C (g_Gs n f) g_sh 0 (d + 9) 241 [.index (179)] σ (fun r9 s => rV r9 ∧ Fr (180) (181) σ s ∧ WF s ∧ (∀ p, 0 ≤ p → p < 8 → wq s p 0 = wq σ p 0) ∧ SC (x5up (x5st0 σ) 6 (ra_g σ 180 6 + 1)) s) := by
  refine ra_enter (nn := 2) mt_241 rfl (Nat.le_of_ble_eq_true rfl) rfl (fun h => absurd h (by decide +kernel)) ?_
  have hm0 := hmf
  unfold MF at hm0
  refine ra_load rfl rfl rfl rfl ?_
  refine ra_cIPp (sp_236 hmf) rfl (ct_236 rfl lk_8_165 (Or.inl rfl) sh_179 (Nat.le_of_ble_eq_true rfl)) (fun z2 hz2 hz2p => ?_)
  refine ra_store (L' := [_, _, _]) rfl rfl rfl (Nat.le_of_ble_eq_true rfl) rfl ?_
  refine ra_load rfl rfl rfl rfl ?_
  refine ra_load rfl rfl rfl rfl ?_
  refine ra_cTp (sp_234 hmf) rfl (ct_234 rfl lk_8_162 (Or.inl rfl) sh_179 (Nat.le_of_ble_eq_true rfl)) ?_
  have hr4 : ra_in (rbn σ) := (by first | omega | (unfold ra_in at *; omega))
  refine ra_cV (sp_239 hr4 hmf (by first | assumption | rfl | omega)) rfl (ct_239 rfl lk_8_174 (Or.inl rfl) sh_179 (Nat.le_of_ble_eq_true rfl)) (fun s5 hs5 => ?_)
  obtain ⟨hf6, he7⟩ := hs5
  have hF8 := Fr_tr (lo := 180) (hi := 181) Fr_rf hf6 (by omega)
  refine ra_load rfl rfl rfl rfl ?_
  refine ra_getR rfl lk_8_7 (Nat.zero_le _) sh_179 rfl ?_
  refine ra_bipush rfl (by decide) ?_
  refine ra_dup2 rfl rfl rfl ?_
  refine ra_ialoadJ (j := 6) rfl sh_180 rfl (by decide) rfl (by decide) ?_
  have hr9 : ra_in (ra_g s5 (180) 6) := (ra_in_g _ _ _)
  refine ra_iconst rfl ?_
  refine ra_iadd rfl ?_
  refine x5wr_ ?_
  refine ra_iastoreJ (j := 6) rfl sh_180 rfl (by decide) rfl (by decide) ?_
  refine ra_newR (ra_w_in _) (fun s10 hs10 hs10v hs10o => ?_)
  have hF11 := Fr_tr (lo := 180) (hi := 181) hF8 hs10 (by omega)
  refine ra_load rfl rfl rfl rfl ?_
  refine ra_getR rfl lk_8_7 (Nat.zero_le _) sh_179 rfl ?_
  refine ra_bipush rfl (by decide) ?_
  refine ra_load rfl rfl rfl rfl ?_
  refine ra_iconst rfl ?_
  refine ra_icne rfl rfl hz2 (by first | omega | (unfold ra_in at *; omega)) (fun h12 => ?_) (fun h12 => ?_)
  · refine ra_iconst rfl ?_
    refine ra_iastoreJ (j := 22) rfl sh_180 rfl (by decide) rfl (by decide) ?_
    refine ra_newR (by first | omega | (unfold ra_in at *; omega)) (fun s13 hs13 hs13v hs13o => ?_)
    have hF14 := Fr_tr (lo := 180) (hi := 181) hF11 hs13 (by omega)
    have hR3 := st_rel he7 hs10o hs13o
    have e21 : ra_g s13 180 21 = ra_g σ 180 21 := (hs13o 21 (by decide)).trans ((hs10o 21 (by decide)).trans (he7 21 (by omega)))
    refine ra_load rfl rfl rfl rfl ?_
    refine ra_iconst rfl ?_
    refine ra_icne rfl rfl hz2 (by first | omega | (unfold ra_in at *; omega)) (fun h15 => ?_) (fun h15 => ?_)
    · refine ra_load rfl rfl rfl rfl ?_
      refine ra_getR rfl lk_8_7 (Nat.zero_le _) sh_179 rfl ?_
      refine ra_bipush rfl (by decide) ?_
      refine ra_dup2 rfl rfl rfl ?_
      refine ra_ialoadJ (j := 21) rfl sh_180 rfl (by decide) rfl (by decide) ?_
      have hr16 : ra_in (ra_g s13 (180) 21) := (ra_in_g _ _ _)
      refine ra_iconst rfl ?_
      refine ra_iadd rfl ?_
      refine ra_iastoreJ (j := 21) rfl sh_180 rfl (by decide) rfl (by decide) ?_
      refine ra_newR (by first | omega | (unfold ra_in at *; omega)) (fun s17 hs17 hs17v hs17o => ?_)
      have hF18 := Fr_tr (lo := 180) (hi := 181) hF14 hs17 (by omega)
      refine ra_load rfl rfl rfl rfl ?_
      refine ra_getR rfl lk_8_7 (Nat.zero_le _) sh_179 rfl ?_
      refine ra_bipush rfl (by decide) ?_
      refine ra_ialoadJ (j := 21) rfl sh_180 rfl (by decide) rfl (by decide) ?_
      have hr19 : ra_in (ra_g s17 (180) 21) := (ra_in_g _ _ _)
      have hR4 := st_rel2 hR3 hs17o
      have hG := mg_r hmf hR4
      have hG1 := hG.1
      have hG3 := hG.2.2.2
      refine ra_load rfl rfl rfl rfl ?_
      refine ra_cTp (sq_228 hG.2.2.1) rfl (ct_228 rfl lk_8_150 (Or.inl rfl) sh_179 (Nat.le_of_ble_eq_true rfl)) ?_
      have hr21 : ra_in (rch s17) := (by first | omega | (unfold ra_in at *; omega))
      refine ra_icge rfl rfl hr19 hr21 (fun h22 => ?_) (fun h22 => ?_)
      · refine ra_load rfl rfl rfl rfl ?_
        refine ra_getR rfl lk_8_7 (Nat.zero_le _) sh_179 rfl ?_
        refine ra_bipush rfl (by decide) ?_
        refine ra_ialoadJ (j := 16) rfl sh_180 rfl (by decide) rfl (by decide) ?_
        have hr23 : ra_in (ra_g s17 (180) 16) := (ra_in_g _ _ _)
        refine ra_store (L' := [_, _, _]) rfl rfl rfl (Nat.le_of_ble_eq_true rfl) rfl ?_
        refine ra_load rfl rfl rfl rfl ?_
        refine ra_load rfl rfl rfl rfl ?_
        refine ra_iconst rfl ?_
        refine ra_load rfl rfl rfl rfl ?_
        refine ra_getR rfl lk_8_7 (Nat.zero_le _) sh_179 rfl ?_
        refine ra_bipush rfl (by decide) ?_
        refine ra_ialoadJ (j := 18) rfl sh_180 rfl (by decide) rfl (by decide) ?_
        have hr24 : ra_in (ra_g s17 (180) 18) := (ra_in_g _ _ _)
        refine ra_cV (sp_201 hr23 (by first | omega | (unfold ra_in at *; omega)) hr24 (by first | assumption | rfl | omega)) rfl (ct_201 rfl lk_8_78 (Or.inl rfl) sh_179 (Nat.le_of_ble_eq_true rfl)) (fun s25 hs25 => ?_)
        obtain ⟨hf26, he27, he28⟩ := hs25
        have hF29 := Fr_tr (lo := 180) (hi := 181) hF18 hf26 (by omega)
        refine ra_load rfl rfl rfl rfl ?_
        refine ra_load rfl rfl rfl rfl ?_
        refine ra_bipush rfl (by decide) ?_
        refine ra_load rfl rfl rfl rfl ?_
        refine ra_load rfl rfl rfl rfl ?_
        refine ra_bipush rfl (by decide) ?_
        refine ra_cTp (sp_200 hr23 (by first | omega | (unfold ra_in at *; omega)) (by first | assumption | rfl | omega)) rfl (ct_200 rfl lk_8_67 (Or.inl rfl) sh_179 (Nat.le_of_ble_eq_true rfl)) ?_
        have hr31 : ra_in (wq s25 (ra_g s17 (180) 16) (7)) := (ra_in_wq _ _ _)
        refine ra_iconst rfl ?_
        refine ra_iadd rfl ?_
        refine x5wr_ ?_
        refine ra_cV (sp_201 hr23 (by first | omega | (unfold ra_in at *; omega)) (ra_w_in _) (by first | assumption | rfl | omega)) rfl (ct_201 rfl lk_8_78 (Or.inl rfl) sh_179 (Nat.le_of_ble_eq_true rfl)) (fun s32 hs32 => ?_)
        obtain ⟨hf33, he34, he35⟩ := hs32
        have hF36 := Fr_tr (lo := 180) (hi := 181) hF29 hf33 (by omega)
        refine ra_load rfl rfl rfl rfl ?_
        refine ra_getR rfl lk_8_7 (Nat.zero_le _) sh_179 rfl ?_
        refine ra_bipush rfl (by decide) ?_
        refine ra_iconst rfl ?_
        refine ra_iastoreJ (j := 16) rfl sh_180 rfl (by decide) rfl (by decide) ?_
        refine ra_newR (by first | omega | (unfold ra_in at *; omega)) (fun s37 hs37 hs37v hs37o => ?_)
        have hF38 := Fr_tr (lo := 180) (hi := 181) hF36 hs37 (by omega)
        refine ra_load rfl rfl rfl rfl ?_
        refine ra_getR rfl lk_8_7 (Nat.zero_le _) sh_179 rfl ?_
        refine ra_bipush rfl (by decide) ?_
        refine ra_dup2 rfl rfl rfl ?_
        refine ra_ialoadJ (j := 8) rfl sh_180 rfl (by decide) rfl (by decide) ?_
        have hr39 : ra_in (ra_g s37 (180) 8) := (ra_in_g _ _ _)
        refine ra_iconst rfl ?_
        refine ra_iadd rfl ?_
        refine x5wr_ ?_
        refine ra_iastoreJ (j := 8) rfl sh_180 rfl (by decide) rfl (by decide) ?_
        refine ra_newR (ra_w_in _) (fun s40 hs40 hs40v hs40o => ?_)
        have hF41 := Fr_tr (lo := 180) (hi := 181) hF38 hs40 (by omega)
        exact ra_return rfl rfl ⟨rfl, ⟨hF41, mv_ec hw hmf hR4 rfl he27 he28 he35 hs37v hs37o hs40o, (fun p p0 p1 => ((hs40o _ (by omega)).trans ((hs37o _ (by omega)).trans ((he35 _ (by omega)).trans ((he28 _ (by omega)).trans ((hs17o _ (by omega)).trans ((hs13o _ (by omega)).trans ((hs10o _ (by omega)).trans (he7 _ (by omega)))))))))), (by rw [x5st0_e (by omega) (by omega)]; exact x5sc_6e (by omega) (by omega) (x5sc_upw (x5sc_up (x5sc_upw (x5sc_up (x5sc_up (x5sc_up (x5sc_upw (SC_tr SC_rf he7) (hs10v.trans (by rw [he7 6 (by omega)])) hs10o) hs13v hs13o) (hs17v.trans (by omega)) hs17o) (by have q9 := he27; rw [hG1] at q9; exact q9.trans hG.2.1) (by have q9 := he28; rw [hG1] at q9; exact q9)) (by have ho4 := he28; rw [hG1] at ho4; have q9 := he34; rw [hG1] at q9; have w7 : wq s25 (ra_g σ 180 16) 7 = wq σ (ra_g σ 180 16) 7 := ((ho4 _ (by omega)).trans ((hs17o _ (by omega)).trans ((hs13o _ (by omega)).trans ((hs10o _ (by omega)).trans (he7 _ (by omega)))))); rw [w7] at q9; exact q9) (by have q9 := he35; rw [hG1] at q9; exact q9)) hs37v hs37o) (hs40v.trans (by rw [((hs37o 8 (by decide)).trans ((he35 8 (by omega)).trans ((he28 8 (by omega)).trans ((hs17o 8 (by decide)).trans ((hs13o 8 (by decide)).trans ((hs10o 8 (by decide)).trans (he7 8 (by omega))))))))])) hs40o))⟩⟩
      · exact ra_return rfl rfl ⟨rfl, ⟨hF18, mv_w hw hmf hR4 ⟨by have t := hs17v; omega, by omega⟩ (by have t := hs13v; have t2 := hs17o 22 (by decide); omega), (fun p p0 p1 => ((hs17o _ (by omega)).trans ((hs13o _ (by omega)).trans ((hs10o _ (by omega)).trans (he7 _ (by omega)))))), (by rw [x5st0_b (by omega) (by omega)]; exact x5sc_6b (x5sc_up (x5sc_up (x5sc_upw (SC_tr SC_rf he7) (hs10v.trans (by rw [he7 6 (by omega)])) hs10o) hs13v hs13o) (hs17v.trans (by omega)) hs17o))⟩⟩
    · exact ra_return rfl rfl ⟨rfl, ⟨hF14, mv_w hw hmf hR3 ⟨by omega, by omega⟩ (by have t := hs13v; omega), (fun p p0 p1 => ((hs13o _ (by omega)).trans ((hs10o _ (by omega)).trans (he7 _ (by omega))))), (by exfalso; omega)⟩⟩
  · refine ra_iconst rfl ?_
    refine ra_goto rfl rfl ?_
    refine ra_iastoreJ (j := 22) rfl sh_180 rfl (by decide) rfl (by decide) ?_
    refine ra_newR (by first | omega | (unfold ra_in at *; omega)) (fun s42 hs42 hs42v hs42o => ?_)
    have hF43 := Fr_tr (lo := 180) (hi := 181) hF11 hs42 (by omega)
    have hR3 := st_rel he7 hs10o hs42o
    have e21 : ra_g s42 180 21 = ra_g σ 180 21 := (hs42o 21 (by decide)).trans ((hs10o 21 (by decide)).trans (he7 21 (by omega)))
    refine ra_load rfl rfl rfl rfl ?_
    refine ra_iconst rfl ?_
    refine ra_icne rfl rfl hz2 (by first | omega | (unfold ra_in at *; omega)) (fun h44 => ?_) (fun h44 => ?_)
    · refine ra_load rfl rfl rfl rfl ?_
      refine ra_getR rfl lk_8_7 (Nat.zero_le _) sh_179 rfl ?_
      refine ra_bipush rfl (by decide) ?_
      refine ra_dup2 rfl rfl rfl ?_
      refine ra_ialoadJ (j := 21) rfl sh_180 rfl (by decide) rfl (by decide) ?_
      have hr45 : ra_in (ra_g s42 (180) 21) := (ra_in_g _ _ _)
      refine ra_iconst rfl ?_
      refine ra_iadd rfl ?_
      refine ra_iastoreJ (j := 21) rfl sh_180 rfl (by decide) rfl (by decide) ?_
      refine ra_newR (by first | omega | (unfold ra_in at *; omega)) (fun s46 hs46 hs46v hs46o => ?_)
      have hF47 := Fr_tr (lo := 180) (hi := 181) hF43 hs46 (by omega)
      refine ra_load rfl rfl rfl rfl ?_
      refine ra_getR rfl lk_8_7 (Nat.zero_le _) sh_179 rfl ?_
      refine ra_bipush rfl (by decide) ?_
      refine ra_ialoadJ (j := 21) rfl sh_180 rfl (by decide) rfl (by decide) ?_
      have hr48 : ra_in (ra_g s46 (180) 21) := (ra_in_g _ _ _)
      have hR4 := st_rel2 hR3 hs46o
      have hG := mg_r hmf hR4
      have hG1 := hG.1
      have hG3 := hG.2.2.2
      refine ra_load rfl rfl rfl rfl ?_
      refine ra_cTp (sq_228 hG.2.2.1) rfl (ct_228 rfl lk_8_150 (Or.inl rfl) sh_179 (Nat.le_of_ble_eq_true rfl)) ?_
      have hr50 : ra_in (rch s46) := (by first | omega | (unfold ra_in at *; omega))
      refine ra_icge rfl rfl hr48 hr50 (fun h51 => ?_) (fun h51 => ?_)
      · refine ra_load rfl rfl rfl rfl ?_
        refine ra_getR rfl lk_8_7 (Nat.zero_le _) sh_179 rfl ?_
        refine ra_bipush rfl (by decide) ?_
        refine ra_ialoadJ (j := 16) rfl sh_180 rfl (by decide) rfl (by decide) ?_
        have hr52 : ra_in (ra_g s46 (180) 16) := (ra_in_g _ _ _)
        refine ra_store (L' := [_, _, _]) rfl rfl rfl (Nat.le_of_ble_eq_true rfl) rfl ?_
        refine ra_load rfl rfl rfl rfl ?_
        refine ra_load rfl rfl rfl rfl ?_
        refine ra_iconst rfl ?_
        refine ra_load rfl rfl rfl rfl ?_
        refine ra_getR rfl lk_8_7 (Nat.zero_le _) sh_179 rfl ?_
        refine ra_bipush rfl (by decide) ?_
        refine ra_ialoadJ (j := 18) rfl sh_180 rfl (by decide) rfl (by decide) ?_
        have hr53 : ra_in (ra_g s46 (180) 18) := (ra_in_g _ _ _)
        refine ra_cV (sp_201 hr52 (by first | omega | (unfold ra_in at *; omega)) hr53 (by first | assumption | rfl | omega)) rfl (ct_201 rfl lk_8_78 (Or.inl rfl) sh_179 (Nat.le_of_ble_eq_true rfl)) (fun s54 hs54 => ?_)
        obtain ⟨hf55, he56, he57⟩ := hs54
        have hF58 := Fr_tr (lo := 180) (hi := 181) hF47 hf55 (by omega)
        refine ra_load rfl rfl rfl rfl ?_
        refine ra_load rfl rfl rfl rfl ?_
        refine ra_bipush rfl (by decide) ?_
        refine ra_load rfl rfl rfl rfl ?_
        refine ra_load rfl rfl rfl rfl ?_
        refine ra_bipush rfl (by decide) ?_
        refine ra_cTp (sp_200 hr52 (by first | omega | (unfold ra_in at *; omega)) (by first | assumption | rfl | omega)) rfl (ct_200 rfl lk_8_67 (Or.inl rfl) sh_179 (Nat.le_of_ble_eq_true rfl)) ?_
        have hr60 : ra_in (wq s54 (ra_g s46 (180) 16) (7)) := (ra_in_wq _ _ _)
        refine ra_iconst rfl ?_
        refine ra_iadd rfl ?_
        refine x5wr_ ?_
        refine ra_cV (sp_201 hr52 (by first | omega | (unfold ra_in at *; omega)) (ra_w_in _) (by first | assumption | rfl | omega)) rfl (ct_201 rfl lk_8_78 (Or.inl rfl) sh_179 (Nat.le_of_ble_eq_true rfl)) (fun s61 hs61 => ?_)
        obtain ⟨hf62, he63, he64⟩ := hs61
        have hF65 := Fr_tr (lo := 180) (hi := 181) hF58 hf62 (by omega)
        refine ra_load rfl rfl rfl rfl ?_
        refine ra_getR rfl lk_8_7 (Nat.zero_le _) sh_179 rfl ?_
        refine ra_bipush rfl (by decide) ?_
        refine ra_iconst rfl ?_
        refine ra_iastoreJ (j := 16) rfl sh_180 rfl (by decide) rfl (by decide) ?_
        refine ra_newR (by first | omega | (unfold ra_in at *; omega)) (fun s66 hs66 hs66v hs66o => ?_)
        have hF67 := Fr_tr (lo := 180) (hi := 181) hF65 hs66 (by omega)
        refine ra_load rfl rfl rfl rfl ?_
        refine ra_getR rfl lk_8_7 (Nat.zero_le _) sh_179 rfl ?_
        refine ra_bipush rfl (by decide) ?_
        refine ra_dup2 rfl rfl rfl ?_
        refine ra_ialoadJ (j := 8) rfl sh_180 rfl (by decide) rfl (by decide) ?_
        have hr68 : ra_in (ra_g s66 (180) 8) := (ra_in_g _ _ _)
        refine ra_iconst rfl ?_
        refine ra_iadd rfl ?_
        refine x5wr_ ?_
        refine ra_iastoreJ (j := 8) rfl sh_180 rfl (by decide) rfl (by decide) ?_
        refine ra_newR (ra_w_in _) (fun s69 hs69 hs69v hs69o => ?_)
        have hF70 := Fr_tr (lo := 180) (hi := 181) hF67 hs69 (by omega)
        exact ra_return rfl rfl ⟨rfl, ⟨hF70, mv_ec hw hmf hR4 rfl he56 he57 he64 hs66v hs66o hs69o, (fun p p0 p1 => ((hs69o _ (by omega)).trans ((hs66o _ (by omega)).trans ((he64 _ (by omega)).trans ((he57 _ (by omega)).trans ((hs46o _ (by omega)).trans ((hs42o _ (by omega)).trans ((hs10o _ (by omega)).trans (he7 _ (by omega)))))))))), (by exfalso; omega)⟩⟩
      · exact ra_return rfl rfl ⟨rfl, ⟨hF47, mv_w hw hmf hR4 ⟨by have t := hs46v; omega, by omega⟩ (by have t := hs42v; have t2 := hs46o 22 (by decide); omega), (fun p p0 p1 => ((hs46o _ (by omega)).trans ((hs42o _ (by omega)).trans ((hs10o _ (by omega)).trans (he7 _ (by omega)))))), (by exfalso; omega)⟩⟩
    · exact ra_return rfl rfl ⟨rfl, ⟨hF43, mv_w hw hmf hR3 ⟨by omega, by omega⟩ (by have t := hs42v; omega), (fun p p0 p1 => ((hs42o _ (by omega)).trans ((hs10o _ (by omega)).trans (he7 _ (by omega))))), (by rw [x5st0_a ⟨by omega, by omega⟩]; exact x5sc_6a (x5sc_up (x5sc_upw (SC_tr SC_rf he7) (hs10v.trans (by rw [he7 6 (by omega)])) hs10o) hs42v hs42o))⟩⟩
theorem l5_242_2 {n : Nat} {f : Nat → Int32} {d : Nat} {x0 : Int} {σ : ra_V} (hx0 : ra_in x0) (hw : WF σ) : ∀ (nn : Nat) (v2 : Int) (s : ra_V) (hv2_0 : 0 ≤ v2) (hv2_1 : ra_in v2) (hv2_2 : v2 ≤ x0 ∨ v2 = 0) (hF : Fr (180) (181) σ s) (hws : WF s) (hex : ∀ p, 0 ≤ p → p < 8 → wq s p 0 = wq σ p 0) (hsc : SC (x5up (x5itv v2.toNat σ) 6 (ra_g σ 180 6 + x5cnv v2.toNat σ)) s) (hcn : x5cnv v2.toNat σ = v2) (hm : ((x0 - v2 : Int)).toNat < nn), ra_P (g_Gs n f) g_sh 0 (d + 9) g_m_X8_runs 2 [some (.index (179)), some (ra_I x0), some (ra_I v2)] [] s (fun r9 s => (∃ z, ra_in z ∧ (z = x5cnv x0.toNat σ) ∧ r9 = .inl (some (ra_I z))) ∧ Fr (180) (181) σ s ∧ WF s ∧ (∀ p, 0 ≤ p → p < 8 → wq s p 0 = wq σ p 0) ∧ SC (x5runV x0.toNat σ) s) := by
  intro nn
  induction nn with
  | zero => intro v2 s hv2_0 hv2_1 hv2_2 hF hws hex hsc hcn hm; exact absurd hm (Nat.not_lt_zero _)
  | succ nn ih =>
    intro v2 s hv2_0 hv2_1 hv2_2 hF hws hex hsc hcn hm
    have e16 : ra_g s 180 16 = ra_g (x5itv v2.toNat σ) 180 16 := (hsc 16 (by omega)).trans (x5uo_n (by omega))
    refine ra_load rfl rfl rfl rfl ?_
    refine ra_load rfl rfl rfl rfl ?_
    refine ra_icge rfl rfl (by first | omega | (unfold ra_in at *; omega)) hx0 (fun h1 => ?_) (fun h1 => ?_)
    · refine ra_load rfl rfl rfl rfl ?_
      exact ra_ireturn rfl rfl ⟨⟨_, (by first | omega | (unfold ra_in at *; omega)), (by rw [(by rw [show x0.toNat = v2.toNat by omega]; exact ⟨rfl, rfl⟩ : x5itv x0.toNat σ = x5itv v2.toNat σ ∧ x5cnv x0.toNat σ = x5cnv v2.toNat σ).2]; exact hcn.symm), rfl⟩, ⟨hF, hws, hex, (show SC (x5up (x5itv x0.toNat σ) 6 (ra_g σ 180 6 + x5cnv x0.toNat σ)) s from by rw [(by rw [show x0.toNat = v2.toNat by omega]; exact ⟨rfl, rfl⟩ : x5itv x0.toNat σ = x5itv v2.toNat σ ∧ x5cnv x0.toNat σ = x5cnv v2.toNat σ).1, (by rw [show x0.toNat = v2.toNat by omega]; exact ⟨rfl, rfl⟩ : x5itv x0.toNat σ = x5itv v2.toNat σ ∧ x5cnv x0.toNat σ = x5cnv v2.toNat σ).2]; exact hsc)⟩⟩
    · refine ra_load rfl rfl rfl rfl ?_
      refine ra_cQPp (sp_204 ) rfl (ct_204 rfl lk_8_95 (Or.inl rfl) sh_179 (Nat.le_of_ble_eq_true rfl)) (fun z3 hz3 hz3p => ?_)
      refine ra_ifeq rfl rfl (ra_in01 hz3) (fun h4 => ?_) (fun h4 => ?_)
      · refine ra_load rfl rfl rfl rfl ?_
        exact ra_ireturn rfl rfl ⟨⟨_, (by first | omega | (unfold ra_in at *; omega)), (by rw [(x5itv_e (by rw [← e16]; have q9 := hz3p; omega) (by omega) : x5itv x0.toNat σ = x5itv v2.toNat σ ∧ x5cnv x0.toNat σ = x5cnv v2.toNat σ).2]; exact hcn.symm), rfl⟩, ⟨hF, hws, hex, (show SC (x5up (x5itv x0.toNat σ) 6 (ra_g σ 180 6 + x5cnv x0.toNat σ)) s from by rw [(x5itv_e (by rw [← e16]; have q9 := hz3p; omega) (by omega) : x5itv x0.toNat σ = x5itv v2.toNat σ ∧ x5cnv x0.toNat σ = x5cnv v2.toNat σ).1, (x5itv_e (by rw [← e16]; have q9 := hz3p; omega) (by omega) : x5itv x0.toNat σ = x5itv v2.toNat σ ∧ x5cnv x0.toNat σ = x5cnv v2.toNat σ).2]; exact hsc)⟩⟩
      · refine ra_load rfl rfl rfl rfl ?_
        refine ra_cV (s5_241 (MV_f hws (hz3p.mp (by omega))) hws) rfl (ct_241 rfl lk_8_177 (Or.inl rfl) sh_179 (Nat.le_of_ble_eq_true rfl)) (fun s5 hs5 => ?_)
        obtain ⟨hf6, he7, he8, he9⟩ := hs5
        have hF10 := Fr_tr (lo := 180) (hi := 181) hF hf6 (by omega)
        refine ra_iinc (L' := [_, _, _]) rfl rfl (Nat.le_of_ble_eq_true rfl) rfl ?_
        refine ra_goto rfl rfl ?_
        exact ra_weak (by repeat' constructor) (ih (v2 + 1) s5 (by first | omega | (unfold ra_in at *; omega)) (by first | omega | (unfold ra_in at *; omega)) (by first | omega | (unfold ra_in at *; omega)) hF10 he7 (fun p p0 p1 => (he8 p p0 p1).trans (hex p p0 p1)) (by rw [show (v2 + 1).toNat = v2.toNat + 1 by omega]; exact x5rn_s (by rw [← e16]; exact hz3p.mp (by omega)) (by rw [← e16]; exact (MV_f hws (hz3p.mp (by omega))).1) hsc he9) (by rw [show (v2 + 1).toNat = v2.toNat + 1 by omega, x5cnv_y (by rw [← e16]; exact hz3p.mp (by omega))]; omega) (by first | omega | (unfold ra_in at *; omega)))
theorem s5_242 {n : Nat} {f : Nat → Int32} {d : Nat} {x0 : Int} {σ : ra_V} (hx0 : ra_in x0) (hw : WF σ) : ra_C (g_Gs n f) g_sh 0 (d + 10) 242 [.index (179), ra_I x0] σ (fun r9 s => (∃ z, ra_in z ∧ (z = x5cnv x0.toNat σ) ∧ r9 = .inl (some (ra_I z))) ∧ Fr (180) (181) σ s ∧ WF s ∧ (∀ p, 0 ≤ p → p < 8 → wq s p 0 = wq σ p 0) ∧ SC (x5runV x0.toNat σ) s) := by
  refine ra_enter (nn := 1) mt_242 rfl (Nat.le_of_ble_eq_true rfl) rfl (fun h => absurd h (by decide +kernel)) ?_
  refine ra_iconst rfl ?_
  refine ra_store (L' := [_, _, _]) rfl rfl rfl (Nat.le_of_ble_eq_true rfl) rfl ?_
  exact ra_weak (by repeat' constructor) (l5_242_2 hx0 hw _ (0) σ (by first | omega | (unfold ra_in at *; omega)) (by first | omega | (unfold ra_in at *; omega)) (by first | omega | (unfold ra_in at *; omega)) Fr_rf hw (fun _ _ _ => rfl) (show SC (x5up σ 6 (ra_g σ 180 6 + 0)) σ from by rw [Int.add_zero]; exact x5sc_up SC_rf rfl (fun _ _ => rfl)) rfl (Nat.lt_succ_self _))
end
