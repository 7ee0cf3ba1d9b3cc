/-! T5: what the reference changes (printed by wip/gen/r6.py) -/
section
theorem s5_330 {n : Nat} {f : Nat → Int32} {d : Nat}  {σ : ra_V} (hw : WF σ) (hpw : PW σ) (h3 : x5W3 σ) : ra_C (g_Gs n f) g_sh 0 (d + 12) 330 [.index (179)] σ (fun r9 s => (∃ z, ra_in z ∧ (x5RO (x5dcCp σ) (fun z => z = x5pkN (ct σ (-1)).toNat σ) (x5pkV (ct σ (-1)).toNat σ) σ s z) ∧ r9 = .inl (some (ra_I z))) ∧ Fr (179) (191) σ s ∧ s (183) = σ (183) ∧ s (187) = σ (187) ∧ (∀ a, a ≠ 5 → a ≠ 7 → a ≠ 10 → ra_g s 179 a = ra_g σ 179 a) ∧ WF s ∧ PW s) := by
  refine ra_enter (nn := 0) mt_330 rfl (Nat.le_of_ble_eq_true rfl) rfl (fun h => absurd h (by decide +kernel)) ?_
  have hw0 := WF_a hw
  unfold WFa at hw0
  refine ra_load rfl rfl rfl rfl ?_
  refine ra_iconst rfl ?_
  refine ra_putI rfl lk_8_51 (Nat.zero_le _) sh_179 rfl rfl ?_
  refine ra_newU (by first | omega | (unfold ra_in at *; omega)) (fun s1 hs1 hp2 hp2o => ?_)
  have hp2_99 := hp2o 99 (by decide)
  have hF3 := Fr_tr (lo := 179) (hi := 191) Fr_rf hs1 (by omega)
  have hk4 : s1 (180) = σ (180) := (hs1 (180) (by omega))
  have hk5 : s1 (183) = σ (183) := (hs1 (183) (by omega))
  have hk6 : s1 (184) = σ (184) := (hs1 (184) (by omega))
  have hk7 : s1 (187) = σ (187) := (hs1 (187) (by omega))
  have hg8 : ∀ a, a ≠ 5 → a ≠ 7 → a ≠ 10 → ra_g s1 179 a = ra_g σ 179 a := fun a h5 h7 h10 => ((fun a h7 h10 => hp2o a h7) a h7 h10).trans ((fun _ _ _ _ => rfl) a h5 h7 h10)
  have ho9 : ∀ a, a ≠ 7 → a ≠ 10 → ra_g s1 179 a = ra_g σ 179 a := fun a h7 h10 => ((fun a h7 h10 => hp2o a h7) a h7 h10).trans ((fun _ _ _ => rfl) a h7 h10)
  refine ra_load rfl rfl rfl rfl ?_
  refine ra_load rfl rfl rfl rfl ?_
  refine ra_cQPp (sp_204 ) rfl (ct_204 rfl lk_8_95 (Or.inl rfl) sh_179 (Nat.le_of_ble_eq_true rfl)) (fun z11 hz11 hz11p => ?_)
  refine ra_iconst rfl ?_
  refine ra_cT (s5_194 hz11 (by first | omega | (unfold ra_in at *; omega))) rfl (ct_194 rfl lk_8_303 (Or.inl rfl) sh_179 (Nat.le_of_ble_eq_true rfl)) (fun s12 hs12 => ?_)
  obtain ⟨hf13, he14, he15⟩ := hs12
  have hF16 := Fr_tr (lo := 179) (hi := 191) hF3 hf13 (by omega)
  have hk17 : s12 (180) = σ (180) := (hf13 (180) (by omega)).trans hk4
  have hk18 : s12 (183) = σ (183) := (hf13 (183) (by omega)).trans hk5
  have hk19 : s12 (184) = σ (184) := (hf13 (184) (by omega)).trans hk6
  have hk20 : s12 (187) = σ (187) := (hf13 (187) (by omega)).trans hk7
  have hg21 : ∀ a, a ≠ 5 → a ≠ 7 → a ≠ 10 → ra_g s12 179 a = ra_g σ 179 a := fun a h5 h7 h10 => ((fun a h7 h10 => he14 a h7) a h7 h10).trans (hg8 a h5 h7 h10)
  have ho22 : ∀ a, a ≠ 7 → a ≠ 10 → ra_g s12 179 a = ra_g σ 179 a := fun a h7 h10 => ((fun a h7 h10 => he14 a h7) a h7 h10).trans (ho9 a h7 h10)
  refine ra_ifeq rfl rfl (ra_in01 hz11) (fun h23 => ?_) (fun h23 => ?_)
  · refine ra_load rfl rfl rfl rfl ?_
    have hb0 : s12 180 = σ 180 := hk17
    have hb4 : s12 184 = σ 184 := hk19
    have hb5 : ra_g s12 179 5 = ra_g σ 179 5 := ho22 5 (by decide) (by decide)
    refine ra_cV (s5_197 (WF_k hk17 hw) (PW_k hpw (ho22 5 (by decide) (by decide)) hk19)) rfl (ct_197 rfl lk_8_366 (Or.inl rfl) sh_179 (Nat.le_of_ble_eq_true rfl)) (fun s24 hs24 => ?_)
    obtain ⟨hf25, hc26, hc27, hc28, hc29, he30, he31, he32⟩ := hs24
    have hF33 := Fr_tr (lo := 179) (hi := 191) hF16 hf25 (by omega)
    have hk34 : s24 (180) = σ (180) := hc26.trans hk17
    have hk35 : s24 (183) = σ (183) := hc29.trans hk18
    have hk36 : s24 (187) = σ (187) := (hf25 (187) (by omega)).trans hk20
    have hg37 : ∀ a, a ≠ 5 → a ≠ 7 → a ≠ 10 → ra_g s24 179 a = ra_g σ 179 a := fun a h5 h7 h10 => ((fun a h5 h7 h10 => he30 a h5) a h5 h7 h10).trans (hg21 a h5 h7 h10)
    refine ra_load rfl rfl rfl rfl ?_
    refine ra_cIP (s5_329 (WF_k hk34 hw) (x5W3_sc (by omega) (SC_k hk34) h3) ((ra_gk hk34).trans (by have q9 := hz11p; rw [ra_gk hk4] at q9; omega))) rfl (ct_329 rfl lk_8_410 (Or.inl rfl) sh_179 (Nat.le_of_ble_eq_true rfl)) (fun z39 s38 hz39 hz39p hs38 => ?_)
    obtain ⟨hf40, hc41, hc42, hc43, hc44, hc45, he46, he47⟩ := hs38
    have hF48 := Fr_tr (lo := 179) (hi := 191) hF33 hf40 (by omega)
    have hk49 : s38 (183) = σ (183) := hc43.trans hk35
    have hk50 : s38 (187) = σ (187) := hc45.trans hk36
    have hg51 : ∀ a, a ≠ 5 → a ≠ 7 → a ≠ 10 → ra_g s38 179 a = ra_g σ 179 a := fun a h5 h7 h10 => (ra_gk (hf40 179 (by omega))).trans (hg37 a h5 h7 h10)
    exact ra_ireturn rfl rfl ⟨⟨_, hz39, (x5roY (x5cif_n (fun q => q (by have q9 := hz11p; rw [ra_gk hk4] at q9; omega))) ((ra_gk (hf40 (179) (by omega))).trans ((he30 7 (by decide)).trans ((he15.2 (by first | rfl | omega)).trans hp2))) (by have q9 := hz39p; rw [ct_k hk34, x5pkN_k hk34] at q9; exact q9) (x5pks_k hk34 he47) (x5psh_k (x5psh_s hb5 hb4 hb0 he32) (ra_gk (hf40 179 (by omega))) hc44)), rfl⟩, ⟨hF48, hk49, hk50, hg51, he46, (PW_k he31 (ra_gk (hf40 179 (by omega))) hc44)⟩⟩
  · refine ra_iconst rfl ?_
    exact ra_ireturn rfl rfl ⟨⟨_, (by first | omega | (unfold ra_in at *; omega)), (x5roF (k := 1) (x5cif_y (by have q9 := hz11p; rw [ra_gk hk4] at q9; omega)) (by decide) (he15.1 (by first | rfl | omega)) hk17 (ho22 5 (by decide) (by decide)) hk19), rfl⟩, ⟨hF16, hk18, hk20, hg21, (WF_k hk17 hw), (PW_k hpw (ho22 5 (by decide) (by decide)) hk19)⟩⟩
theorem s5_331 {n : Nat} {f : Nat → Int32} {d : Nat}  {σ : ra_V} (hw : WF σ) (hpw : PW σ) (h3 : x5W3 σ) : ra_C (g_Gs n f) g_sh 0 (d + 12) 331 [.index (179)] σ (fun r9 s => rI r9 ∧ Fr (179) (191) σ s ∧ s (183) = σ (183) ∧ s (187) = σ (187) ∧ (∀ a, a ≠ 5 → a ≠ 7 → a ≠ 10 → ra_g s 179 a = ra_g σ 179 a) ∧ WF s ∧ PW s ∧ x5FS σ s ∧ ra_g s 179 5 = ra_g σ 179 5 ∧ s 184 = σ 184) := by
  refine ra_enter (nn := 3) mt_331 rfl (Nat.le_of_ble_eq_true rfl) rfl (fun h => absurd h (by decide +kernel)) ?_
  have hw0 := WF_a hw
  unfold WFa at hw0
  refine ra_load rfl rfl rfl rfl ?_
  refine ra_iconst rfl ?_
  refine ra_putI rfl lk_8_51 (Nat.zero_le _) sh_179 rfl rfl ?_
  refine ra_newU (by first | omega | (unfold ra_in at *; omega)) (fun s1 hs1 hp2 hp2o => ?_)
  have hp2_99 := hp2o 99 (by decide)
  have hF3 := Fr_tr (lo := 179) (hi := 191) Fr_rf hs1 (by omega)
  have hk4 : s1 (180) = σ (180) := (hs1 (180) (by omega))
  have hk5 : s1 (183) = σ (183) := (hs1 (183) (by omega))
  have hk6 : s1 (184) = σ (184) := (hs1 (184) (by omega))
  have hk7 : s1 (187) = σ (187) := (hs1 (187) (by omega))
  have hg8 : ∀ a, a ≠ 5 → a ≠ 7 → a ≠ 10 → ra_g s1 179 a = ra_g σ 179 a := fun a h5 h7 h10 => ((fun a h7 h10 => hp2o a h7) a h7 h10).trans ((fun _ _ _ _ => rfl) a h5 h7 h10)
  have ho9 : ∀ a, a ≠ 7 → a ≠ 10 → ra_g s1 179 a = ra_g σ 179 a := fun a h7 h10 => ((fun a h7 h10 => hp2o a h7) a h7 h10).trans ((fun _ _ _ => rfl) a h7 h10)
  refine ra_load rfl rfl rfl rfl ?_
  refine ra_cQPp (sp_204 ) rfl (ct_204 rfl lk_8_95 (Or.inl rfl) sh_179 (Nat.le_of_ble_eq_true rfl)) (fun z11 hz11 hz11p => ?_)
  refine ra_ifeq rfl rfl (ra_in01 hz11) (fun h12 => ?_) (fun h12 => ?_)
  · refine ra_load rfl rfl rfl rfl ?_
    refine ra_cV (sp_198 ) rfl (ct_198 rfl lk_8_413 (Or.inl rfl) sh_179 (Nat.le_of_ble_eq_true rfl)) (fun s13 hs13 => ?_)
    obtain ⟨hf14, he15⟩ := hs13
    have hF16 := Fr_tr (lo := 179) (hi := 191) hF3 hf14 (by omega)
    have hk17 : s13 (180) = σ (180) := (hf14 (180) (by omega)).trans hk4
    have hk18 : s13 (183) = σ (183) := (hf14 (183) (by omega)).trans hk5
    have hk19 : s13 (184) = σ (184) := (hf14 (184) (by omega)).trans hk6
    have hk20 : s13 (187) = σ (187) := (hf14 (187) (by omega)).trans hk7
    have hk21 : s13 (179) = s1 (179) := (hf14 (179) (by omega))
    have hg22 : ∀ a, a ≠ 5 → a ≠ 7 → a ≠ 10 → ra_g s13 179 a = ra_g σ 179 a := fun a h5 h7 h10 => (ra_gk (hf14 179 (by omega))).trans (hg8 a h5 h7 h10)
    have ho23 : ∀ a, a ≠ 7 → a ≠ 10 → ra_g s13 179 a = ra_g σ 179 a := fun a h7 h10 => (ra_gk (hf14 179 (by omega))).trans (ho9 a h7 h10)
    refine ra_load rfl rfl rfl rfl ?_
    refine ra_getR rfl lk_8_7 (Nat.zero_le _) sh_179 rfl ?_
    refine ra_bipush rfl (by decide) ?_
    refine ra_ialoadJ (j := 6) rfl sh_180 rfl (by decide) rfl (by decide) ?_
    rw [ra_gk hk17]
    have hr24 : ra_in (ra_g σ (180) 6) := (ra_in_g _ _ _)
    refine ra_store (L' := [_, _, _, _]) rfl rfl rfl (Nat.le_of_ble_eq_true rfl) rfl ?_
    refine ra_load rfl rfl rfl rfl ?_
    refine ra_cIP (s5_329 (WF_k hk17 hw) (x5W3_sc (by omega) (SC_k hk17) h3) ((ra_gk hk17).trans (by have q9 := hz11p; rw [ra_gk hk4] at q9; omega))) rfl (ct_329 rfl lk_8_410 (Or.inl rfl) sh_179 (Nat.le_of_ble_eq_true rfl)) (fun z26 s25 hz26 hz26p hs25 => ?_)
    obtain ⟨hf27, hc28, hc29, hc30, hc31, hc32, he33, he34⟩ := hs25
    have hF35 := Fr_tr (lo := 179) (hi := 191) hF16 hf27 (by omega)
    have hk36 : s25 (183) = σ (183) := hc30.trans hk18
    have hk37 : s25 (184) = σ (184) := hc31.trans hk19
    have hk38 : s25 (187) = σ (187) := hc32.trans hk20
    have hk39 : s25 (179) = s1 (179) := (hf27 (179) (by omega)).trans hk21
    have hg40 : ∀ a, a ≠ 5 → a ≠ 7 → a ≠ 10 → ra_g s25 179 a = ra_g σ 179 a := fun a h5 h7 h10 => (ra_gk (hf27 179 (by omega))).trans (hg22 a h5 h7 h10)
    have ho41 : ∀ a, a ≠ 7 → a ≠ 10 → ra_g s25 179 a = ra_g σ 179 a := fun a h7 h10 => (ra_gk (hf27 179 (by omega))).trans (ho23 a h7 h10)
    refine ra_store (L' := [_, _, _, _]) rfl rfl rfl (Nat.le_of_ble_eq_true rfl) rfl ?_
    refine ra_load rfl rfl rfl rfl ?_
    refine ra_ifge rfl rfl hz26 (fun h42 => ?_) (fun h42 => ?_)
    · refine ra_load rfl rfl rfl rfl ?_
      refine ra_getR rfl lk_8_7 (Nat.zero_le _) sh_179 rfl ?_
      refine ra_bipush rfl (by decide) ?_
      refine ra_ialoadJ (j := 6) rfl sh_180 rfl (by decide) rfl (by decide) ?_
      have hr43 : ra_in (ra_g s25 (180) 6) := (ra_in_g _ _ _)
      refine ra_load rfl rfl rfl rfl ?_
      refine ra_isub rfl ?_
      refine ra_gen (fun z44 hz44 => ?_)
      refine ra_store (L' := [_, _, _, _]) rfl rfl rfl (Nat.le_of_ble_eq_true rfl) rfl ?_
      refine ra_load rfl rfl rfl rfl ?_
      refine ra_cV (sp_199 ) rfl (ct_199 rfl lk_8_416 (Or.inl rfl) sh_179 (Nat.le_of_ble_eq_true rfl)) (fun s45 hs45 => ?_)
      obtain ⟨hf46, he47⟩ := hs45
      have hF48 := Fr_tr (lo := 179) (hi := 191) hF35 hf46 (by omega)
      have hk49 : s45 (183) = σ (183) := (hf46 (183) (by omega)).trans hk36
      have hk50 : s45 (184) = σ (184) := (hf46 (184) (by omega)).trans hk37
      have hk51 : s45 (187) = σ (187) := (hf46 (187) (by omega)).trans hk38
      have hk52 : s45 (179) = s1 (179) := (hf46 (179) (by omega)).trans hk39
      have hg53 : ∀ a, a ≠ 5 → a ≠ 7 → a ≠ 10 → ra_g s45 179 a = ra_g σ 179 a := fun a h5 h7 h10 => (ra_gk (hf46 179 (by omega))).trans (hg40 a h5 h7 h10)
      have ho54 : ∀ a, a ≠ 7 → a ≠ 10 → ra_g s45 179 a = ra_g σ 179 a := fun a h7 h10 => (ra_gk (hf46 179 (by omega))).trans (ho41 a h7 h10)
      refine ra_load rfl rfl rfl rfl ?_
      exact ra_ireturn rfl rfl ⟨⟨_, hz44, rfl⟩, ⟨hF48, hk49, hk51, hg53, (cs_w hw (hs1 180 (by omega)) he15 hc29 he47), (PW_k hpw (ho54 5 (by decide) (by decide)) hk50), (x5cs_f (hs1 180 (by omega)) he15 hc29 he47), ho54 5 (by decide) (by decide), hk50⟩⟩
    · refine ra_iconst rfl ?_
      refine ra_goto rfl rfl ?_
      refine ra_store (L' := [_, _, _, _]) rfl rfl rfl (Nat.le_of_ble_eq_true rfl) rfl ?_
      refine ra_load rfl rfl rfl rfl ?_
      refine ra_cV (sp_199 ) rfl (ct_199 rfl lk_8_416 (Or.inl rfl) sh_179 (Nat.le_of_ble_eq_true rfl)) (fun s55 hs55 => ?_)
      obtain ⟨hf56, he57⟩ := hs55
      have hF58 := Fr_tr (lo := 179) (hi := 191) hF35 hf56 (by omega)
      have hk59 : s55 (183) = σ (183) := (hf56 (183) (by omega)).trans hk36
      have hk60 : s55 (184) = σ (184) := (hf56 (184) (by omega)).trans hk37
      have hk61 : s55 (187) = σ (187) := (hf56 (187) (by omega)).trans hk38
      have hk62 : s55 (179) = s1 (179) := (hf56 (179) (by omega)).trans hk39
      have hg63 : ∀ a, a ≠ 5 → a ≠ 7 → a ≠ 10 → ra_g s55 179 a = ra_g σ 179 a := fun a h5 h7 h10 => (ra_gk (hf56 179 (by omega))).trans (hg40 a h5 h7 h10)
      have ho64 : ∀ a, a ≠ 7 → a ≠ 10 → ra_g s55 179 a = ra_g σ 179 a := fun a h7 h10 => (ra_gk (hf56 179 (by omega))).trans (ho41 a h7 h10)
      refine ra_load rfl rfl rfl rfl ?_
      exact ra_ireturn rfl rfl ⟨⟨_, (by first | omega | (unfold ra_in at *; omega)), rfl⟩, ⟨hF58, hk59, hk61, hg63, (cs_w hw (hs1 180 (by omega)) he15 hc29 he57), (PW_k hpw (ho64 5 (by decide) (by decide)) hk60), (x5cs_f (hs1 180 (by omega)) he15 hc29 he57), ho64 5 (by decide) (by decide), hk60⟩⟩
  · refine ra_iconst rfl ?_
    exact ra_ireturn rfl rfl ⟨⟨_, (by first | omega | (unfold ra_in at *; omega)), rfl⟩, ⟨hF3, hk5, hk7, hg8, (WF_k hk4 hw), (PW_k hpw (ho9 5 (by decide) (by decide)) hk6), (fun a _ => ra_gk hk4), ho9 5 (by decide) (by decide), hk6⟩⟩
end
