/-! the law: a call of the class, what it throws caught (printed by wip/gen/law.py) -/
section RL
theorem sp_342 {n : Nat} {f : Nat → Int32} {d : Nat} {x1 : Int} {σ : ra_V} (hx1 : ra_in x1) (hci : CI σ) : ra_C (g_Gs n f) g_sh 1 (d + 8) 342 [.index (0), ra_I x1, .index (191)] σ (fun r s => rI r ∧ CH σ s) := by
  refine ra_enter (nn := 1) mt_342 rfl (Nat.le_of_ble_eq_true rfl) rfl (fun h => absurd h (by decide +kernel)) ?_
  refine ra_load rfl rfl rfl rfl ?_
  refine ra_iconst rfl ?_
  refine ra_load rfl rfl rfl rfl ?_
  refine ra_load rfl rfl rfl rfl ?_
  refine ra_call (b1 := 0) (b2 := 1) rfl (ct_119 rfl lk_9_7 (Or.inl rfl) sh_0 (Nat.le_of_ble_eq_true rfl)) (sp_119 hx1) (fun t s1 h => ?_) (by decide) (fun E s1 h => ?_)
  · obtain ⟨⟨z2, hz2, e⟩ | ⟨E, -, e⟩, hS⟩ := h
    · cases e
      refine ra_i2l rfl hz2 ?_
      refine ra_lastore rfl sh_191 rfl (by decide) (by decide) (by decide) hz2 ?_
      refine ra_new Fr_up (fun s3 hs3 => ?_)
      refine ra_goto rfl rfl ?_
      refine ra_iconst rfl ?_
      exact ra_ireturn rfl rfl ⟨⟨_, (by first | omega | (unfold ra_in at *; omega)), rfl⟩, (ch_up (ch_ga hS hci) hs3)⟩
    · cases e
  · obtain ⟨⟨z2, hz2, e⟩ | ⟨E2, hE, e⟩, hS⟩ := h
    · cases e
    · cases e
      simp only [List.mem_cons, List.not_mem_nil, or_false] at hE
      subst hE
      · refine Or.inr ⟨12, 3, 1, 0, (fd_y (by decide) (by decide) lk_9_13 nc_AA rfl (by decide)), Or.inr ⟨(3 : Fin 4), rfl, rfl, rfl⟩, by decide, by decide, ?_⟩
        refine ra_iconst rfl ?_
        exact ra_ireturn rfl rfl ⟨⟨_, (by first | omega | (unfold ra_in at *; omega)), rfl⟩, (ch_ga hS hci)⟩
theorem sp_343 {n : Nat} {f : Nat → Int32} {d : Nat} {x1 : Int} {x2 : Int} {σ : ra_V} (hx1 : ra_in x1) (hx2 : ra_in x2) (hci : CI σ) : ra_C (g_Gs n f) g_sh 1 (d + 8) 343 [.index (0), ra_I x1, ra_I x2, .index (191)] σ (fun r s => rI r ∧ CH σ s) := by
  refine ra_enter (nn := 1) mt_343 rfl (Nat.le_of_ble_eq_true rfl) rfl (fun h => absurd h (by decide +kernel)) ?_
  refine ra_load rfl rfl rfl rfl ?_
  refine ra_iconst rfl ?_
  refine ra_load rfl rfl rfl rfl ?_
  refine ra_load rfl rfl rfl rfl ?_
  refine ra_load rfl rfl rfl rfl ?_
  refine ra_call (b1 := 0) (b2 := 1) rfl (ct_120 rfl lk_9_15 (Or.inl rfl) sh_0 (Nat.le_of_ble_eq_true rfl)) (sp_120 hx1 hx2) (fun t s1 h => ?_) (by decide) (fun E s1 h => ?_)
  · obtain ⟨⟨z2, hz2, e⟩ | ⟨E, -, e⟩, hS⟩ := h
    · cases e
      refine ra_i2l rfl hz2 ?_
      refine ra_lastore rfl sh_191 rfl (by decide) (by decide) (by decide) hz2 ?_
      refine ra_new Fr_up (fun s3 hs3 => ?_)
      refine ra_goto rfl rfl ?_
      refine ra_iconst rfl ?_
      exact ra_ireturn rfl rfl ⟨⟨_, (by first | omega | (unfold ra_in at *; omega)), rfl⟩, (ch_up (ch_e hS hci) hs3)⟩
    · cases e
  · obtain ⟨⟨z2, hz2, e⟩ | ⟨E2, hE, e⟩, hS⟩ := h
    · cases e
    · cases e
      simp only [List.mem_cons, List.not_mem_nil, or_false] at hE
      rcases hE with rfl | rfl
      · refine Or.inr ⟨13, 4, 2, 0, (fd_y (by decide) (by decide) lk_9_13 nc_AA rfl (by decide)), Or.inl ⟨rfl, rfl⟩, by decide, by decide, ?_⟩
        refine ra_iconst rfl ?_
        exact ra_ireturn rfl rfl ⟨⟨_, (by first | omega | (unfold ra_in at *; omega)), rfl⟩, (ch_e hS hci)⟩
      · refine Or.inr ⟨17, 4, 2, 0, (fd_n (by decide) (by decide) lk_9_13 nc_NA rfl (by decide) (fd_y (by decide) (by decide) lk_9_19 nc_NN rfl (by decide))), Or.inl ⟨rfl, rfl⟩, by decide, by decide, ?_⟩
        refine ra_iconst rfl ?_
        exact ra_ireturn rfl rfl ⟨⟨_, (by first | omega | (unfold ra_in at *; omega)), rfl⟩, (ch_e hS hci)⟩
theorem sp_344 {n : Nat} {f : Nat → Int32} {d : Nat} {x1 : Int} {σ : ra_V} (hx1 : ra_in x1) (hci : CI σ) : ra_C (g_Gs n f) g_sh 1 (d + 8) 344 [.index (0), ra_I x1, .index (191)] σ (fun r s => rI r ∧ CH σ s) := by
  refine ra_enter (nn := 1) mt_344 rfl (Nat.le_of_ble_eq_true rfl) rfl (fun h => absurd h (by decide +kernel)) ?_
  refine ra_load rfl rfl rfl rfl ?_
  refine ra_iconst rfl ?_
  refine ra_load rfl rfl rfl rfl ?_
  refine ra_load rfl rfl rfl rfl ?_
  refine ra_call (b1 := 0) (b2 := 1) rfl (ct_121 rfl lk_9_21 (Or.inl rfl) sh_0 (Nat.le_of_ble_eq_true rfl)) (sp_121 hx1) (fun t s1 h => ?_) (by decide) (fun E s1 h => ?_)
  · obtain ⟨⟨z2, hz2, e⟩ | ⟨E, -, e⟩, hS⟩ := h
    · cases e
      refine ra_i2l rfl hz2 ?_
      refine ra_lastore rfl sh_191 rfl (by decide) (by decide) (by decide) hz2 ?_
      refine ra_new Fr_up (fun s3 hs3 => ?_)
      refine ra_goto rfl rfl ?_
      refine ra_iconst rfl ?_
      exact ra_ireturn rfl rfl ⟨⟨_, (by first | omega | (unfold ra_in at *; omega)), rfl⟩, (ch_up (ch_e hS hci) hs3)⟩
    · cases e
  · obtain ⟨⟨z2, hz2, e⟩ | ⟨E2, hE, e⟩, hS⟩ := h
    · cases e
    · cases e
      simp only [List.mem_cons, List.not_mem_nil, or_false] at hE
      subst hE
      · refine Or.inr ⟨12, 3, 1, 0, (fd_y (by decide) (by decide) lk_9_24 nc_BB rfl (by decide)), Or.inr ⟨(3 : Fin 4), rfl, rfl, rfl⟩, by decide, by decide, ?_⟩
        refine ra_iconst rfl ?_
        exact ra_ireturn rfl rfl ⟨⟨_, (by first | omega | (unfold ra_in at *; omega)), rfl⟩, (ch_e hS hci)⟩
theorem sp_345 {n : Nat} {f : Nat → Int32} {d : Nat} {x1 : Int} {σ : ra_V} (hx1 : ra_in x1) (hci : CI σ) : ra_C (g_Gs n f) g_sh 1 (d + 8) 345 [.index (0), ra_I x1, .index (191)] σ (fun r s => rI r ∧ CH σ s) := by
  refine ra_enter (nn := 1) mt_345 rfl (Nat.le_of_ble_eq_true rfl) rfl (fun h => absurd h (by decide +kernel)) ?_
  refine ra_load rfl rfl rfl rfl ?_
  refine ra_iconst rfl ?_
  refine ra_load rfl rfl rfl rfl ?_
  refine ra_load rfl rfl rfl rfl ?_
  refine ra_call (b1 := 0) (b2 := 1) rfl (ct_122 rfl lk_9_26 (Or.inl rfl) sh_0 (Nat.le_of_ble_eq_true rfl)) (sp_122 hx1) (fun t s1 h => ?_) (by decide) (fun E s1 h => ?_)
  · obtain ⟨⟨z2, hz2, e⟩ | ⟨E, -, e⟩, hS⟩ := h
    · cases e
      refine ra_i2l rfl hz2 ?_
      refine ra_lastore rfl sh_191 rfl (by decide) (by decide) (by decide) hz2 ?_
      refine ra_new Fr_up (fun s3 hs3 => ?_)
      refine ra_goto rfl rfl ?_
      refine ra_iconst rfl ?_
      exact ra_ireturn rfl rfl ⟨⟨_, (by first | omega | (unfold ra_in at *; omega)), rfl⟩, (ch_up (ch_e hS hci) hs3)⟩
    · cases e
  · obtain ⟨⟨z2, hz2, e⟩ | ⟨E2, hE, e⟩, hS⟩ := h
    · cases e
    · cases e
      simp only [List.mem_cons, List.not_mem_nil, or_false] at hE
      subst hE
      · refine Or.inr ⟨12, 3, 1, 0, (fd_y (by decide) (by decide) lk_9_24 nc_BB rfl (by decide)), Or.inr ⟨(3 : Fin 4), rfl, rfl, rfl⟩, by decide, by decide, ?_⟩
        refine ra_iconst rfl ?_
        exact ra_ireturn rfl rfl ⟨⟨_, (by first | omega | (unfold ra_in at *; omega)), rfl⟩, (ch_e hS hci)⟩
theorem sp_346 {n : Nat} {f : Nat → Int32} {d : Nat} {x1 : Int} {x2 : Int} {σ : ra_V} (hx1 : ra_in x1) (hx2 : ra_in x2) (hci : CI σ) : ra_C (g_Gs n f) g_sh 1 (d + 8) 346 [.index (0), ra_I x1, ra_I x2, .index (191)] σ (fun r s => rI r ∧ CH σ s) := by
  refine ra_enter (nn := 1) mt_346 rfl (Nat.le_of_ble_eq_true rfl) rfl (fun h => absurd h (by decide +kernel)) ?_
  refine ra_load rfl rfl rfl rfl ?_
  refine ra_iconst rfl ?_
  refine ra_load rfl rfl rfl rfl ?_
  refine ra_load rfl rfl rfl rfl ?_
  refine ra_load rfl rfl rfl rfl ?_
  refine ra_call (b1 := 0) (b2 := 1) rfl (ct_123 rfl lk_9_29 (Or.inl rfl) sh_0 (Nat.le_of_ble_eq_true rfl)) (sp_123 hx1 hx2) (fun t s1 h => ?_) (by decide) (fun E s1 h => ?_)
  · obtain ⟨⟨z2, hz2, e⟩ | ⟨E, -, e⟩, hS⟩ := h
    · cases e
      refine ra_i2l rfl hz2 ?_
      refine ra_lastore rfl sh_191 rfl (by decide) (by decide) (by decide) hz2 ?_
      refine ra_new Fr_up (fun s3 hs3 => ?_)
      refine ra_goto rfl rfl ?_
      refine ra_iconst rfl ?_
      exact ra_ireturn rfl rfl ⟨⟨_, (by first | omega | (unfold ra_in at *; omega)), rfl⟩, (ch_up (ch_e hS hci) hs3)⟩
    · cases e
  · obtain ⟨⟨z2, hz2, e⟩ | ⟨E2, hE, e⟩, hS⟩ := h
    · cases e
    · cases e
      simp only [List.mem_cons, List.not_mem_nil, or_false] at hE
      rcases hE with rfl | rfl
      · refine Or.inr ⟨13, 4, 2, 0, (fd_y (by decide) (by decide) lk_9_24 nc_BB rfl (by decide)), Or.inl ⟨rfl, rfl⟩, by decide, by decide, ?_⟩
        refine ra_iconst rfl ?_
        exact ra_ireturn rfl rfl ⟨⟨_, (by first | omega | (unfold ra_in at *; omega)), rfl⟩, (ch_e hS hci)⟩
      · refine Or.inr ⟨17, 4, 2, 0, (fd_n (by decide) (by decide) lk_9_24 nc_NB rfl (by decide) (fd_y (by decide) (by decide) lk_9_19 nc_NN rfl (by decide))), Or.inl ⟨rfl, rfl⟩, by decide, by decide, ?_⟩
        refine ra_iconst rfl ?_
        exact ra_ireturn rfl rfl ⟨⟨_, (by first | omega | (unfold ra_in at *; omega)), rfl⟩, (ch_e hS hci)⟩
theorem sp_347 {n : Nat} {f : Nat → Int32} {d : Nat} {x1 : Int} {σ : ra_V} (hx1 : ra_in x1) (hci : CI σ) : ra_C (g_Gs n f) g_sh 1 (d + 8) 347 [.index (0), ra_I x1, .index (191)] σ (fun r s => rI r ∧ CH σ s) := by
  refine ra_enter (nn := 1) mt_347 rfl (Nat.le_of_ble_eq_true rfl) rfl (fun h => absurd h (by decide +kernel)) ?_
  refine ra_load rfl rfl rfl rfl ?_
  refine ra_iconst rfl ?_
  refine ra_load rfl rfl rfl rfl ?_
  refine ra_load rfl rfl rfl rfl ?_
  refine ra_call (b1 := 0) (b2 := 1) rfl (ct_124 rfl lk_9_32 (Or.inl rfl) sh_0 (Nat.le_of_ble_eq_true rfl)) (sp_124 hx1) (fun t s1 h => ?_) (by decide) (fun E s1 h => ?_)
  · obtain ⟨⟨z2, hz2, e⟩ | ⟨E, -, e⟩, hS⟩ := h
    · cases e
      refine ra_ifeq rfl rfl (ra_in01 hz2) (fun h3 => ?_) (fun h3 => ?_)
      · refine ra_lconst0 rfl ?_
        refine ra_lastore rfl sh_191 rfl (by decide) (by decide) (by decide) (by first | omega | (unfold ra_in at *; omega)) ?_
        refine ra_new Fr_up (fun s4 hs4 => ?_)
        refine ra_goto rfl rfl ?_
        refine ra_iconst rfl ?_
        exact ra_ireturn rfl rfl ⟨⟨_, (by first | omega | (unfold ra_in at *; omega)), rfl⟩, (ch_up (ch_e hS hci) hs4)⟩
      · refine ra_lconst1 rfl ?_
        refine ra_goto rfl rfl ?_
        refine ra_lastore rfl sh_191 rfl (by decide) (by decide) (by decide) (by first | omega | (unfold ra_in at *; omega)) ?_
        refine ra_new Fr_up (fun s5 hs5 => ?_)
        refine ra_goto rfl rfl ?_
        refine ra_iconst rfl ?_
        exact ra_ireturn rfl rfl ⟨⟨_, (by first | omega | (unfold ra_in at *; omega)), rfl⟩, (ch_up (ch_e hS hci) hs5)⟩
    · cases e
  · obtain ⟨⟨z2, hz2, e⟩ | ⟨E2, hE, e⟩, hS⟩ := h
    · cases e
    · cases e
      simp only [List.mem_cons, List.not_mem_nil, or_false] at hE
      subst hE
      · refine Or.inr ⟨19, 3, 1, 0, (fd_y (by decide) (by decide) lk_9_19 nc_NN rfl (by decide)), Or.inr ⟨(3 : Fin 4), rfl, rfl, rfl⟩, by decide, by decide, ?_⟩
        refine ra_iconst rfl ?_
        exact ra_ireturn rfl rfl ⟨⟨_, (by first | omega | (unfold ra_in at *; omega)), rfl⟩, (ch_e hS hci)⟩
theorem sp_348 {n : Nat} {f : Nat → Int32} {d : Nat} {x1 : Int} {σ : ra_V} (hx1 : ra_in x1) (hci : CI σ) : ra_C (g_Gs n f) g_sh 1 (d + 7) 348 [.index (0), ra_I x1, .index (191)] σ (fun r s => rI r ∧ CH σ s) := by
  refine ra_enter (nn := 1) mt_348 rfl (Nat.le_of_ble_eq_true rfl) rfl (fun h => absurd h (by decide +kernel)) ?_
  refine ra_load rfl rfl rfl rfl ?_
  refine ra_iconst rfl ?_
  refine ra_load rfl rfl rfl rfl ?_
  refine ra_load rfl rfl rfl rfl ?_
  refine ra_call (b1 := 0) (b2 := 1) rfl (ct_125 rfl lk_9_36 (Or.inl rfl) sh_0 (Nat.le_of_ble_eq_true rfl)) (sp_125 hx1) (fun t s1 h => ?_) (by decide) (fun E s1 h => ?_)
  · obtain ⟨⟨z2, hz2, e⟩ | ⟨E, -, e⟩, hS⟩ := h
    · cases e
      refine ra_i2l rfl hz2 ?_
      refine ra_lastore rfl sh_191 rfl (by decide) (by decide) (by decide) hz2 ?_
      refine ra_new Fr_up (fun s3 hs3 => ?_)
      refine ra_goto rfl rfl ?_
      refine ra_iconst rfl ?_
      exact ra_ireturn rfl rfl ⟨⟨_, (by first | omega | (unfold ra_in at *; omega)), rfl⟩, (ch_up (ch_e hS hci) hs3)⟩
    · cases e
  · obtain ⟨⟨z2, hz2, e⟩ | ⟨E2, hE, e⟩, hS⟩ := h
    · cases e
    · cases e
      simp only [List.mem_cons, List.not_mem_nil, or_false] at hE
      subst hE
      · refine Or.inr ⟨12, 3, 1, 0, (fd_y (by decide) (by decide) lk_9_24 nc_BB rfl (by decide)), Or.inr ⟨(3 : Fin 4), rfl, rfl, rfl⟩, by decide, by decide, ?_⟩
        refine ra_iconst rfl ?_
        exact ra_ireturn rfl rfl ⟨⟨_, (by first | omega | (unfold ra_in at *; omega)), rfl⟩, (ch_e hS hci)⟩
theorem sp_349 {n : Nat} {f : Nat → Int32} {d : Nat} {x1 : Int} {x2 : Int} {σ : ra_V} (hx1 : ra_in x1) (hx2 : ra_in x2) (hci : CI σ) : ra_C (g_Gs n f) g_sh 1 (d + 8) 349 [.index (0), ra_I x1, ra_I x2, .index (191)] σ (fun r s => rI r ∧ CH σ s) := by
  refine ra_enter (nn := 1) mt_349 rfl (Nat.le_of_ble_eq_true rfl) rfl (fun h => absurd h (by decide +kernel)) ?_
  refine ra_load rfl rfl rfl rfl ?_
  refine ra_iconst rfl ?_
  refine ra_load rfl rfl rfl rfl ?_
  refine ra_load rfl rfl rfl rfl ?_
  refine ra_load rfl rfl rfl rfl ?_
  refine ra_call (b1 := 0) (b2 := 1) rfl (ct_133 rfl lk_9_39 (Or.inl rfl) sh_0 (Nat.le_of_ble_eq_true rfl)) (sp_133 hx1 hx2) (fun t s1 h => ?_) (by decide) (fun E s1 h => ?_)
  · obtain ⟨⟨z2, hz2, e⟩ | ⟨E, -, e⟩, hS⟩ := h
    · cases e
      refine ra_i2l rfl hz2 ?_
      refine ra_lastore rfl sh_191 rfl (by decide) (by decide) (by decide) hz2 ?_
      refine ra_new Fr_up (fun s3 hs3 => ?_)
      refine ra_goto rfl rfl ?_
      refine ra_iconst rfl ?_
      exact ra_ireturn rfl rfl ⟨⟨_, (by first | omega | (unfold ra_in at *; omega)), rfl⟩, (ch_up (ch_ga hS hci) hs3)⟩
    · cases e
  · obtain ⟨⟨z2, hz2, e⟩ | ⟨E2, hE, e⟩, hS⟩ := h
    · cases e
    · cases e
      simp only [List.mem_cons, List.not_mem_nil, or_false] at hE
      rcases hE with rfl | rfl
      · refine Or.inr ⟨13, 4, 2, 0, (fd_y (by decide) (by decide) lk_9_24 nc_BB rfl (by decide)), Or.inl ⟨rfl, rfl⟩, by decide, by decide, ?_⟩
        refine ra_iconst rfl ?_
        exact ra_ireturn rfl rfl ⟨⟨_, (by first | omega | (unfold ra_in at *; omega)), rfl⟩, (ch_ga hS hci)⟩
      · refine Or.inr ⟨17, 4, 2, 0, (fd_n (by decide) (by decide) lk_9_24 nc_AB rfl (by decide) (fd_y (by decide) (by decide) lk_9_13 nc_AA rfl (by decide))), Or.inl ⟨rfl, rfl⟩, by decide, by decide, ?_⟩
        refine ra_iconst rfl ?_
        exact ra_ireturn rfl rfl ⟨⟨_, (by first | omega | (unfold ra_in at *; omega)), rfl⟩, (ch_ga hS hci)⟩
theorem sp_350 {n : Nat} {f : Nat → Int32} {d : Nat} {x1 : Int} {x2 : Int} {σ : ra_V} (hx1 : ra_in x1) (hx2 : ra_in x2) (hci : CI σ) : ra_C (g_Gs n f) g_sh 1 (d + 8) 350 [.index (0), ra_I x1, ra_I x2, .index (191)] σ (fun r s => rI r ∧ CH σ s) := by
  refine ra_enter (nn := 1) mt_350 rfl (Nat.le_of_ble_eq_true rfl) rfl (fun h => absurd h (by decide +kernel)) ?_
  refine ra_load rfl rfl rfl rfl ?_
  refine ra_iconst rfl ?_
  refine ra_load rfl rfl rfl rfl ?_
  refine ra_load rfl rfl rfl rfl ?_
  refine ra_load rfl rfl rfl rfl ?_
  refine ra_call (b1 := 0) (b2 := 1) rfl (ct_135 rfl lk_9_42 (Or.inl rfl) sh_0 (Nat.le_of_ble_eq_true rfl)) (sp_135 hx1 hx2) (fun t s1 h => ?_) (by decide) (fun E s1 h => ?_)
  · obtain ⟨⟨z2, hz2, e⟩ | ⟨E, -, e⟩, hS⟩ := h
    · cases e
      refine ra_i2l rfl hz2 ?_
      refine ra_lastore rfl sh_191 rfl (by decide) (by decide) (by decide) hz2 ?_
      refine ra_new Fr_up (fun s3 hs3 => ?_)
      refine ra_goto rfl rfl ?_
      refine ra_iconst rfl ?_
      exact ra_ireturn rfl rfl ⟨⟨_, (by first | omega | (unfold ra_in at *; omega)), rfl⟩, (ch_up (ch_ga hS hci) hs3)⟩
    · cases e
  · obtain ⟨⟨z2, hz2, e⟩ | ⟨E2, hE, e⟩, hS⟩ := h
    · cases e
    · cases e
      simp only [List.mem_cons, List.not_mem_nil, or_false] at hE
      subst hE
      · refine Or.inr ⟨13, 4, 2, 0, (fd_y (by decide) (by decide) lk_9_13 nc_AA rfl (by decide)), Or.inl ⟨rfl, rfl⟩, by decide, by decide, ?_⟩
        refine ra_iconst rfl ?_
        exact ra_ireturn rfl rfl ⟨⟨_, (by first | omega | (unfold ra_in at *; omega)), rfl⟩, (ch_ga hS hci)⟩
theorem sp_351 {n : Nat} {f : Nat → Int32} {d : Nat} {x1 : Int} {x2 : Int} {x3 : Int} {x4 : Int} {σ : ra_V} (hx1 : ra_in x1) (hx2 : ra_in x2) (hx3 : ra_in x3) (hx4 : ra_in x4) (hci : CI σ) : ra_C (g_Gs n f) g_sh 1 (d + 8) 351 [.index (0), ra_I x1, ra_I x2, ra_I x3, ra_I x4, .index (191)] σ (fun r s => rI r ∧ CH σ s) := by
  refine ra_enter (nn := 1) mt_351 rfl (Nat.le_of_ble_eq_true rfl) rfl (fun h => absurd h (by decide +kernel)) ?_
  refine ra_load rfl rfl rfl rfl ?_
  refine ra_iconst rfl ?_
  refine ra_load rfl rfl rfl rfl ?_
  refine ra_load rfl rfl rfl rfl ?_
  refine ra_load rfl rfl rfl rfl ?_
  refine ra_load rfl rfl rfl rfl ?_
  refine ra_load rfl rfl rfl rfl ?_
  refine ra_call (b1 := 0) (b2 := 1) rfl (ct_140 rfl lk_9_45 (Or.inl rfl) sh_0 (Nat.le_of_ble_eq_true rfl)) (sp_140 hx1 hx2 hx3 hx4 hci) (fun t s1 h => ?_) (by decide) (fun E s1 h => ?_)
  · obtain ⟨⟨z2, hz2, e⟩ | ⟨E, -, e⟩, hS⟩ := h
    · cases e
      refine ra_i2l rfl hz2 ?_
      refine ra_lastore rfl sh_191 rfl (by decide) (by decide) (by decide) hz2 ?_
      refine ra_new Fr_up (fun s3 hs3 => ?_)
      refine ra_goto rfl rfl ?_
      refine ra_iconst rfl ?_
      exact ra_ireturn rfl rfl ⟨⟨_, (by first | omega | (unfold ra_in at *; omega)), rfl⟩, (ch_up (ch_op hS) hs3)⟩
    · cases e
  · obtain ⟨⟨z2, hz2, e⟩ | ⟨E2, hE, e⟩, hS⟩ := h
    · cases e
    · cases e
      simp only [List.mem_cons, List.not_mem_nil, or_false] at hE
      rcases hE with rfl | rfl
      · refine Or.inr ⟨17, 6, 2, 0, (fd_y (by decide) (by decide) lk_9_13 nc_AA rfl (by decide)), Or.inl ⟨rfl, rfl⟩, by decide, by decide, ?_⟩
        refine ra_iconst rfl ?_
        exact ra_ireturn rfl rfl ⟨⟨_, (by first | omega | (unfold ra_in at *; omega)), rfl⟩, (ch_op hS)⟩
      · refine Or.inr ⟨21, 6, 2, 0, (fd_n (by decide) (by decide) lk_9_13 nc_SA rfl (by decide) (fd_y (by decide) (by decide) lk_9_49 nc_SS rfl (by decide))), Or.inl ⟨rfl, rfl⟩, by decide, by decide, ?_⟩
        refine ra_iconst rfl ?_
        exact ra_ireturn rfl rfl ⟨⟨_, (by first | omega | (unfold ra_in at *; omega)), rfl⟩, (ch_op hS)⟩
theorem sp_352 {n : Nat} {f : Nat → Int32} {d : Nat} {x1 : Int} {x2 : Int} {x3 : Int} {x4 : Int} {σ : ra_V} (hx1 : ra_in x1) (hx2 : ra_in x2) (hx3 : ra_in x3) (hx4 : ra_in x4) (hci : CI σ) : ra_C (g_Gs n f) g_sh 1 (d + 8) 352 [.index (0), ra_I x1, ra_I x2, ra_I x3, ra_I x4, .index (191)] σ (fun r s => rI r ∧ CH σ s) := by
  refine ra_enter (nn := 1) mt_352 rfl (Nat.le_of_ble_eq_true rfl) rfl (fun h => absurd h (by decide +kernel)) ?_
  refine ra_load rfl rfl rfl rfl ?_
  refine ra_iconst rfl ?_
  refine ra_load rfl rfl rfl rfl ?_
  refine ra_load rfl rfl rfl rfl ?_
  refine ra_load rfl rfl rfl rfl ?_
  refine ra_load rfl rfl rfl rfl ?_
  refine ra_load rfl rfl rfl rfl ?_
  refine ra_call (b1 := 0) (b2 := 1) rfl (ct_141 rfl lk_9_51 (Or.inl rfl) sh_0 (Nat.le_of_ble_eq_true rfl)) (sp_141 hx1 hx2 hx3 hx4 hci) (fun t s1 h => ?_) (by decide) (fun E s1 h => ?_)
  · obtain ⟨⟨z2, hz2, e⟩ | ⟨E, -, e⟩, hS⟩ := h
    · cases e
      refine ra_i2l rfl hz2 ?_
      refine ra_lastore rfl sh_191 rfl (by decide) (by decide) (by decide) hz2 ?_
      refine ra_new Fr_up (fun s3 hs3 => ?_)
      refine ra_goto rfl rfl ?_
      refine ra_iconst rfl ?_
      exact ra_ireturn rfl rfl ⟨⟨_, (by first | omega | (unfold ra_in at *; omega)), rfl⟩, (ch_up (ch_op hS) hs3)⟩
    · cases e
  · obtain ⟨⟨z2, hz2, e⟩ | ⟨E2, hE, e⟩, hS⟩ := h
    · cases e
    · cases e
      simp only [List.mem_cons, List.not_mem_nil, or_false] at hE
      rcases hE with rfl | rfl
      · refine Or.inr ⟨17, 6, 2, 0, (fd_y (by decide) (by decide) lk_9_13 nc_AA rfl (by decide)), Or.inl ⟨rfl, rfl⟩, by decide, by decide, ?_⟩
        refine ra_iconst rfl ?_
        exact ra_ireturn rfl rfl ⟨⟨_, (by first | omega | (unfold ra_in at *; omega)), rfl⟩, (ch_op hS)⟩
      · refine Or.inr ⟨21, 6, 2, 0, (fd_n (by decide) (by decide) lk_9_13 nc_SA rfl (by decide) (fd_y (by decide) (by decide) lk_9_49 nc_SS rfl (by decide))), Or.inl ⟨rfl, rfl⟩, by decide, by decide, ?_⟩
        refine ra_iconst rfl ?_
        exact ra_ireturn rfl rfl ⟨⟨_, (by first | omega | (unfold ra_in at *; omega)), rfl⟩, (ch_op hS)⟩
theorem sp_353 {n : Nat} {f : Nat → Int32} {d : Nat} {x1 : Int} {σ : ra_V} (hx1 : ra_in x1) (hci : CI σ) : ra_C (g_Gs n f) g_sh 1 (d + 8) 353 [.index (0), ra_I x1, .index (191)] σ (fun r s => rI r ∧ CH σ s) := by
  refine ra_enter (nn := 1) mt_353 rfl (Nat.le_of_ble_eq_true rfl) rfl (fun h => absurd h (by decide +kernel)) ?_
  refine ra_load rfl rfl rfl rfl ?_
  refine ra_iconst rfl ?_
  refine ra_load rfl rfl rfl rfl ?_
  refine ra_load rfl rfl rfl rfl ?_
  refine ra_call (b1 := 0) (b2 := 1) rfl (ct_142 rfl lk_9_54 (Or.inl rfl) sh_0 (Nat.le_of_ble_eq_true rfl)) (sp_142 hx1 hci) (fun t s1 h => ?_) (by decide) (fun E s1 h => ?_)
  · obtain ⟨⟨z2, hz2, e⟩ | ⟨E, -, e⟩, hS⟩ := h
    · cases e
      refine ra_i2l rfl hz2 ?_
      refine ra_lastore rfl sh_191 rfl (by decide) (by decide) (by decide) hz2 ?_
      refine ra_new Fr_up (fun s3 hs3 => ?_)
      refine ra_goto rfl rfl ?_
      refine ra_iconst rfl ?_
      exact ra_ireturn rfl rfl ⟨⟨_, (by first | omega | (unfold ra_in at *; omega)), rfl⟩, (ch_up (ch_op hS) hs3)⟩
    · cases e
  · obtain ⟨⟨z2, hz2, e⟩ | ⟨E2, hE, e⟩, hS⟩ := h
    · cases e
    · cases e
      simp only [List.mem_cons, List.not_mem_nil, or_false] at hE
      rcases hE with rfl | rfl
      · refine Or.inr ⟨12, 3, 1, 0, (fd_y (by decide) (by decide) lk_9_49 nc_SS rfl (by decide)), Or.inr ⟨(3 : Fin 4), rfl, rfl, rfl⟩, by decide, by decide, ?_⟩
        refine ra_iconst rfl ?_
        exact ra_ireturn rfl rfl ⟨⟨_, (by first | omega | (unfold ra_in at *; omega)), rfl⟩, (ch_op hS)⟩
      · refine Or.inr ⟨15, 3, 1, 0, (fd_n (by decide) (by decide) lk_9_49 nc_NS rfl (by decide) (fd_y (by decide) (by decide) lk_9_19 nc_NN rfl (by decide))), Or.inr ⟨(3 : Fin 4), rfl, rfl, rfl⟩, by decide, by decide, ?_⟩
        refine ra_iconst rfl ?_
        exact ra_ireturn rfl rfl ⟨⟨_, (by first | omega | (unfold ra_in at *; omega)), rfl⟩, (ch_op hS)⟩
theorem sp_354 {n : Nat} {f : Nat → Int32} {d : Nat} {x1 : Int} {x2 : Int} {σ : ra_V} (hx1 : ra_in x1) (hx2 : x2 = 0 ∨ x2 = 1) (hci : CI σ) : ra_C (g_Gs n f) g_sh 1 (d + 8) 354 [.index (0), ra_I x1, ra_I x2, .index (191)] σ (fun r s => rI r ∧ CH σ s) := by
  refine ra_enter (nn := 1) mt_354 rfl (Nat.le_of_ble_eq_true rfl) rfl (fun h => absurd h (by decide +kernel)) ?_
  refine ra_load rfl rfl rfl rfl ?_
  refine ra_iconst rfl ?_
  refine ra_load rfl rfl rfl rfl ?_
  refine ra_load rfl rfl rfl rfl ?_
  refine ra_load rfl rfl rfl rfl ?_
  refine ra_call (b1 := 0) (b2 := 1) rfl (ct_143 rfl lk_9_57 (Or.inl rfl) sh_0 (Nat.le_of_ble_eq_true rfl)) (sp_143 hx1 hx2 hci) (fun t s1 h => ?_) (by decide) (fun E s1 h => ?_)
  · obtain ⟨⟨z2, hz2, e⟩ | ⟨E, -, e⟩, hS⟩ := h
    · cases e
      refine ra_ifeq rfl rfl (ra_in01 hz2) (fun h3 => ?_) (fun h3 => ?_)
      · refine ra_lconst0 rfl ?_
        refine ra_lastore rfl sh_191 rfl (by decide) (by decide) (by decide) (by first | omega | (unfold ra_in at *; omega)) ?_
        refine ra_new Fr_up (fun s4 hs4 => ?_)
        refine ra_goto rfl rfl ?_
        refine ra_iconst rfl ?_
        exact ra_ireturn rfl rfl ⟨⟨_, (by first | omega | (unfold ra_in at *; omega)), rfl⟩, (ch_up (ch_op hS) hs4)⟩
      · refine ra_lconst1 rfl ?_
        refine ra_goto rfl rfl ?_
        refine ra_lastore rfl sh_191 rfl (by decide) (by decide) (by decide) (by first | omega | (unfold ra_in at *; omega)) ?_
        refine ra_new Fr_up (fun s5 hs5 => ?_)
        refine ra_goto rfl rfl ?_
        refine ra_iconst rfl ?_
        exact ra_ireturn rfl rfl ⟨⟨_, (by first | omega | (unfold ra_in at *; omega)), rfl⟩, (ch_up (ch_op hS) hs5)⟩
    · cases e
  · obtain ⟨⟨z2, hz2, e⟩ | ⟨E2, hE, e⟩, hS⟩ := h
    · cases e
    · cases e
      simp only [List.mem_cons, List.not_mem_nil, or_false] at hE
      subst hE
      · refine Or.inr ⟨20, 4, 2, 0, (fd_y (by decide) (by decide) lk_9_19 nc_NN rfl (by decide)), Or.inl ⟨rfl, rfl⟩, by decide, by decide, ?_⟩
        refine ra_iconst rfl ?_
        exact ra_ireturn rfl rfl ⟨⟨_, (by first | omega | (unfold ra_in at *; omega)), rfl⟩, (ch_op hS)⟩
theorem sp_355 {n : Nat} {f : Nat → Int32} {d : Nat} {x1 : Int} {x2 : Int} {σ : ra_V} (hx1 : ra_in x1) (hx2 : ra_in x2) (hci : CI σ) : ra_C (g_Gs n f) g_sh 1 (d + 8) 355 [.index (0), ra_I x1, ra_I x2, .index (191)] σ (fun r s => rI r ∧ CH σ s) := by
  refine ra_enter (nn := 1) mt_355 rfl (Nat.le_of_ble_eq_true rfl) rfl (fun h => absurd h (by decide +kernel)) ?_
  refine ra_load rfl rfl rfl rfl ?_
  refine ra_iconst rfl ?_
  refine ra_load rfl rfl rfl rfl ?_
  refine ra_load rfl rfl rfl rfl ?_
  refine ra_load rfl rfl rfl rfl ?_
  refine ra_call (b1 := 0) (b2 := 1) rfl (ct_144 rfl lk_9_61 (Or.inl rfl) sh_0 (Nat.le_of_ble_eq_true rfl)) (sp_144 hx1 hx2) (fun t s1 h => ?_) (by decide) (fun E s1 h => ?_)
  · obtain ⟨⟨z2, hz2, e⟩ | ⟨E, -, e⟩, hS⟩ := h
    · cases e
      refine ra_i2l rfl hz2 ?_
      refine ra_lastore rfl sh_191 rfl (by decide) (by decide) (by decide) hz2 ?_
      refine ra_new Fr_up (fun s3 hs3 => ?_)
      refine ra_goto rfl rfl ?_
      refine ra_iconst rfl ?_
      exact ra_ireturn rfl rfl ⟨⟨_, (by first | omega | (unfold ra_in at *; omega)), rfl⟩, (ch_up (ch_e hS hci) hs3)⟩
    · cases e
  · obtain ⟨⟨z2, hz2, e⟩ | ⟨E2, hE, e⟩, hS⟩ := h
    · cases e
    · cases e
      simp only [List.mem_cons, List.not_mem_nil, or_false] at hE
      subst hE
      · refine Or.inr ⟨13, 4, 2, 0, (fd_y (by decide) (by decide) lk_9_19 nc_NN rfl (by decide)), Or.inl ⟨rfl, rfl⟩, by decide, by decide, ?_⟩
        refine ra_iconst rfl ?_
        exact ra_ireturn rfl rfl ⟨⟨_, (by first | omega | (unfold ra_in at *; omega)), rfl⟩, (ch_e hS hci)⟩
theorem sp_356 {n : Nat} {f : Nat → Int32} {d : Nat} {x1 : Int} {x2 : Int} {σ : ra_V} (hx1 : ra_in x1) (hx2 : ra_in x2) (hci : CI σ) : ra_C (g_Gs n f) g_sh 1 (d + 8) 356 [.index (0), ra_I x1, ra_I x2, .index (191)] σ (fun r s => rI r ∧ CH σ s) := by
  refine ra_enter (nn := 1) mt_356 rfl (Nat.le_of_ble_eq_true rfl) rfl (fun h => absurd h (by decide +kernel)) ?_
  refine ra_load rfl rfl rfl rfl ?_
  refine ra_iconst rfl ?_
  refine ra_load rfl rfl rfl rfl ?_
  refine ra_load rfl rfl rfl rfl ?_
  refine ra_load rfl rfl rfl rfl ?_
  refine ra_call (b1 := 0) (b2 := 1) rfl (ct_145 rfl lk_9_64 (Or.inl rfl) sh_0 (Nat.le_of_ble_eq_true rfl)) (sp_145 hx1 hx2 hci) (fun t s1 h => ?_) (by decide) (fun E s1 h => ?_)
  · obtain ⟨⟨z2, hz2, e⟩ | ⟨E, -, e⟩, hS⟩ := h
    · cases e
      refine ra_i2l rfl hz2 ?_
      refine ra_lastore rfl sh_191 rfl (by decide) (by decide) (by decide) hz2 ?_
      refine ra_new Fr_up (fun s3 hs3 => ?_)
      refine ra_goto rfl rfl ?_
      refine ra_iconst rfl ?_
      exact ra_ireturn rfl rfl ⟨⟨_, (by first | omega | (unfold ra_in at *; omega)), rfl⟩, (ch_up (ch_op hS) hs3)⟩
    · cases e
  · obtain ⟨⟨z2, hz2, e⟩ | ⟨E2, hE, e⟩, hS⟩ := h
    · cases e
    · cases e
      simp only [List.mem_cons, List.not_mem_nil, or_false] at hE
      rcases hE with rfl | rfl
      · refine Or.inr ⟨13, 4, 2, 0, (fd_y (by decide) (by decide) lk_9_49 nc_SS rfl (by decide)), Or.inl ⟨rfl, rfl⟩, by decide, by decide, ?_⟩
        refine ra_iconst rfl ?_
        exact ra_ireturn rfl rfl ⟨⟨_, (by first | omega | (unfold ra_in at *; omega)), rfl⟩, (ch_op hS)⟩
      · refine Or.inr ⟨17, 4, 2, 0, (fd_n (by decide) (by decide) lk_9_49 nc_NS rfl (by decide) (fd_y (by decide) (by decide) lk_9_19 nc_NN rfl (by decide))), Or.inl ⟨rfl, rfl⟩, by decide, by decide, ?_⟩
        refine ra_iconst rfl ?_
        exact ra_ireturn rfl rfl ⟨⟨_, (by first | omega | (unfold ra_in at *; omega)), rfl⟩, (ch_op hS)⟩
theorem sp_357 {n : Nat} {f : Nat → Int32} {d : Nat} {x1 : Int} {x2 : Int} {σ : ra_V} (hx1 : ra_in x1) (hx2 : ra_in x2) (hci : CI σ) : ra_C (g_Gs n f) g_sh 1 (d + 8) 357 [.index (0), ra_I x1, ra_I x2, .index (191)] σ (fun r s => rI r ∧ CH σ s) := by
  refine ra_enter (nn := 1) mt_357 rfl (Nat.le_of_ble_eq_true rfl) rfl (fun h => absurd h (by decide +kernel)) ?_
  refine ra_load rfl rfl rfl rfl ?_
  refine ra_iconst rfl ?_
  refine ra_load rfl rfl rfl rfl ?_
  refine ra_load rfl rfl rfl rfl ?_
  refine ra_load rfl rfl rfl rfl ?_
  refine ra_call (b1 := 0) (b2 := 1) rfl (ct_147 rfl lk_9_67 (Or.inl rfl) sh_0 (Nat.le_of_ble_eq_true rfl)) (sp_147 hx1 hx2 hci) (fun t s1 h => ?_) (by decide) (fun E s1 h => ?_)
  · obtain ⟨⟨z2, hz2, e⟩ | ⟨E, -, e⟩, hS⟩ := h
    · cases e
      refine ra_i2l rfl hz2 ?_
      refine ra_lastore rfl sh_191 rfl (by decide) (by decide) (by decide) hz2 ?_
      refine ra_new Fr_up (fun s3 hs3 => ?_)
      refine ra_goto rfl rfl ?_
      refine ra_iconst rfl ?_
      exact ra_ireturn rfl rfl ⟨⟨_, (by first | omega | (unfold ra_in at *; omega)), rfl⟩, (ch_up (ch_op hS) hs3)⟩
    · cases e
  · obtain ⟨⟨z2, hz2, e⟩ | ⟨E2, hE, e⟩, hS⟩ := h
    · cases e
    · cases e
      simp only [List.mem_cons, List.not_mem_nil, or_false] at hE
      rcases hE with rfl | rfl
      · refine Or.inr ⟨13, 4, 2, 0, (fd_y (by decide) (by decide) lk_9_13 nc_AA rfl (by decide)), Or.inl ⟨rfl, rfl⟩, by decide, by decide, ?_⟩
        refine ra_iconst rfl ?_
        exact ra_ireturn rfl rfl ⟨⟨_, (by first | omega | (unfold ra_in at *; omega)), rfl⟩, (ch_op hS)⟩
      · refine Or.inr ⟨17, 4, 2, 0, (fd_n (by decide) (by decide) lk_9_13 nc_NA rfl (by decide) (fd_y (by decide) (by decide) lk_9_19 nc_NN rfl (by decide))), Or.inl ⟨rfl, rfl⟩, by decide, by decide, ?_⟩
        refine ra_iconst rfl ?_
        exact ra_ireturn rfl rfl ⟨⟨_, (by first | omega | (unfold ra_in at *; omega)), rfl⟩, (ch_op hS)⟩
theorem sp_358 {n : Nat} {f : Nat → Int32} {d : Nat} {x1 : Int} {σ : ra_V} (hx1 : ra_in x1) (hci : CI σ) : ra_C (g_Gs n f) g_sh 1 (d + 8) 358 [.index (0), ra_I x1, .index (191)] σ (fun r s => rI r ∧ CH σ s) := by
  refine ra_enter (nn := 1) mt_358 rfl (Nat.le_of_ble_eq_true rfl) rfl (fun h => absurd h (by decide +kernel)) ?_
  refine ra_load rfl rfl rfl rfl ?_
  refine ra_iconst rfl ?_
  refine ra_load rfl rfl rfl rfl ?_
  refine ra_load rfl rfl rfl rfl ?_
  refine ra_call (b1 := 0) (b2 := 1) rfl (ct_148 rfl lk_9_70 (Or.inl rfl) sh_0 (Nat.le_of_ble_eq_true rfl)) (sp_148 hx1) (fun t s1 h => ?_) (by decide) (fun E s1 h => ?_)
  · obtain ⟨⟨z2, hz2, e⟩ | ⟨E, -, e⟩, hS⟩ := h
    · cases e
      refine ra_i2l rfl hz2 ?_
      refine ra_lastore rfl sh_191 rfl (by decide) (by decide) (by decide) hz2 ?_
      refine ra_new Fr_up (fun s3 hs3 => ?_)
      refine ra_goto rfl rfl ?_
      refine ra_iconst rfl ?_
      exact ra_ireturn rfl rfl ⟨⟨_, (by first | omega | (unfold ra_in at *; omega)), rfl⟩, (ch_up (ch_e hS hci) hs3)⟩
    · cases e
  · obtain ⟨⟨z2, hz2, e⟩ | ⟨E2, hE, e⟩, hS⟩ := h
    · cases e
    · cases e
      simp only [List.mem_cons, List.not_mem_nil, or_false] at hE
      subst hE
      · refine Or.inr ⟨12, 3, 1, 0, (fd_y (by decide) (by decide) lk_9_19 nc_NN rfl (by decide)), Or.inr ⟨(3 : Fin 4), rfl, rfl, rfl⟩, by decide, by decide, ?_⟩
        refine ra_iconst rfl ?_
        exact ra_ireturn rfl rfl ⟨⟨_, (by first | omega | (unfold ra_in at *; omega)), rfl⟩, (ch_e hS hci)⟩
theorem sp_359 {n : Nat} {f : Nat → Int32} {d : Nat} {x1 : Int} {x2 : Int} {σ : ra_V} (hx1 : ra_in x1) (hx2 : ra_in x2) (hci : CI σ) : ra_C (g_Gs n f) g_sh 1 (d + 7) 359 [.index (0), ra_I x1, ra_I x2, .index (191)] σ (fun r s => rI r ∧ CH σ s) := by
  refine ra_enter (nn := 1) mt_359 rfl (Nat.le_of_ble_eq_true rfl) rfl (fun h => absurd h (by decide +kernel)) ?_
  refine ra_load rfl rfl rfl rfl ?_
  refine ra_iconst rfl ?_
  refine ra_load rfl rfl rfl rfl ?_
  refine ra_load rfl rfl rfl rfl ?_
  refine ra_load rfl rfl rfl rfl ?_
  refine ra_call (b1 := 0) (b2 := 1) rfl (ct_149 rfl lk_9_73 (Or.inl rfl) sh_0 (Nat.le_of_ble_eq_true rfl)) (sp_149 hx1 hx2 hci) (fun t s1 h => ?_) (by decide) (fun E s1 h => ?_)
  · obtain ⟨⟨z2, hz2, e⟩ | ⟨E, -, e⟩, hS⟩ := h
    · cases e
      refine ra_i2l rfl hz2 ?_
      refine ra_lastore rfl sh_191 rfl (by decide) (by decide) (by decide) hz2 ?_
      refine ra_new Fr_up (fun s3 hs3 => ?_)
      refine ra_goto rfl rfl ?_
      refine ra_iconst rfl ?_
      exact ra_ireturn rfl rfl ⟨⟨_, (by first | omega | (unfold ra_in at *; omega)), rfl⟩, (ch_up (ch_op hS) hs3)⟩
    · cases e
  · obtain ⟨⟨z2, hz2, e⟩ | ⟨E2, hE, e⟩, hS⟩ := h
    · cases e
    · cases e
      simp only [List.mem_cons, List.not_mem_nil, or_false] at hE
      subst hE
      · refine Or.inr ⟨13, 4, 2, 0, (fd_y (by decide) (by decide) lk_9_13 nc_AA rfl (by decide)), Or.inl ⟨rfl, rfl⟩, by decide, by decide, ?_⟩
        refine ra_iconst rfl ?_
        exact ra_ireturn rfl rfl ⟨⟨_, (by first | omega | (unfold ra_in at *; omega)), rfl⟩, (ch_op hS)⟩
theorem sp_360 {n : Nat} {f : Nat → Int32} {d : Nat} {x1 : Int} {x2 : Int} {σ : ra_V} (hx1 : ra_in x1) (hx2 : ra_in x2) (hci : CI σ) : ra_C (g_Gs n f) g_sh 1 (d + 8) 360 [.index (0), ra_I x1, ra_I x2, .index (191)] σ (fun r s => rI r ∧ CH σ s) := by
  refine ra_enter (nn := 1) mt_360 rfl (Nat.le_of_ble_eq_true rfl) rfl (fun h => absurd h (by decide +kernel)) ?_
  refine ra_load rfl rfl rfl rfl ?_
  refine ra_iconst rfl ?_
  refine ra_load rfl rfl rfl rfl ?_
  refine ra_load rfl rfl rfl rfl ?_
  refine ra_load rfl rfl rfl rfl ?_
  refine ra_call (b1 := 0) (b2 := 1) rfl (ct_154 rfl lk_9_76 (Or.inl rfl) sh_0 (Nat.le_of_ble_eq_true rfl)) (sp_154 hx1 hx2) (fun t s1 h => ?_) (by decide) (fun E s1 h => ?_)
  · obtain ⟨⟨z2, hz2, e⟩ | ⟨E, -, e⟩, hS⟩ := h
    · cases e
      refine ra_i2l rfl hz2 ?_
      refine ra_lastore rfl sh_191 rfl (by decide) (by decide) (by decide) hz2 ?_
      refine ra_new Fr_up (fun s3 hs3 => ?_)
      refine ra_goto rfl rfl ?_
      refine ra_iconst rfl ?_
      exact ra_ireturn rfl rfl ⟨⟨_, (by first | omega | (unfold ra_in at *; omega)), rfl⟩, (ch_up (ch_e hS hci) hs3)⟩
    · cases e
  · obtain ⟨⟨z2, hz2, e⟩ | ⟨E2, hE, e⟩, hS⟩ := h
    · cases e
    · cases e
      simp only [List.mem_cons, List.not_mem_nil, or_false] at hE
      subst hE
      · refine Or.inr ⟨13, 4, 2, 0, (fd_y (by decide) (by decide) lk_9_19 nc_NN rfl (by decide)), Or.inl ⟨rfl, rfl⟩, by decide, by decide, ?_⟩
        refine ra_iconst rfl ?_
        exact ra_ireturn rfl rfl ⟨⟨_, (by first | omega | (unfold ra_in at *; omega)), rfl⟩, (ch_e hS hci)⟩
theorem sp_361 {n : Nat} {f : Nat → Int32} {d : Nat} {x1 : Int} {x2 : Int} {σ : ra_V} (hx1 : ra_in x1) (hx2 : ra_in x2) (hci : CI σ) : ra_C (g_Gs n f) g_sh 1 (d + 8) 361 [.index (0), ra_I x1, ra_I x2, .index (191)] σ (fun r s => rI r ∧ CH σ s) := by
  refine ra_enter (nn := 1) mt_361 rfl (Nat.le_of_ble_eq_true rfl) rfl (fun h => absurd h (by decide +kernel)) ?_
  refine ra_load rfl rfl rfl rfl ?_
  refine ra_iconst rfl ?_
  refine ra_load rfl rfl rfl rfl ?_
  refine ra_load rfl rfl rfl rfl ?_
  refine ra_load rfl rfl rfl rfl ?_
  refine ra_call (b1 := 0) (b2 := 1) rfl (ct_155 rfl lk_9_79 (Or.inl rfl) sh_0 (Nat.le_of_ble_eq_true rfl)) (sp_155 hx1 hx2) (fun t s1 h => ?_) (by decide) (fun E s1 h => ?_)
  · obtain ⟨⟨z2, hz2, e⟩ | ⟨E, -, e⟩, hS⟩ := h
    · cases e
      refine ra_i2l rfl hz2 ?_
      refine ra_lastore rfl sh_191 rfl (by decide) (by decide) (by decide) hz2 ?_
      refine ra_new Fr_up (fun s3 hs3 => ?_)
      refine ra_goto rfl rfl ?_
      refine ra_iconst rfl ?_
      exact ra_ireturn rfl rfl ⟨⟨_, (by first | omega | (unfold ra_in at *; omega)), rfl⟩, (ch_up (ch_e hS hci) hs3)⟩
    · cases e
  · obtain ⟨⟨z2, hz2, e⟩ | ⟨E2, hE, e⟩, hS⟩ := h
    · cases e
    · cases e
      simp only [List.mem_cons, List.not_mem_nil, or_false] at hE
      subst hE
      · refine Or.inr ⟨13, 4, 2, 0, (fd_y (by decide) (by decide) lk_9_19 nc_NN rfl (by decide)), Or.inl ⟨rfl, rfl⟩, by decide, by decide, ?_⟩
        refine ra_iconst rfl ?_
        exact ra_ireturn rfl rfl ⟨⟨_, (by first | omega | (unfold ra_in at *; omega)), rfl⟩, (ch_e hS hci)⟩
theorem sp_362 {n : Nat} {f : Nat → Int32} {d : Nat} {x1 : Int} {x2 : Int} {σ : ra_V} (hx1 : ra_in x1) (hx2 : ra_in x2) (hci : CI σ) : ra_C (g_Gs n f) g_sh 1 (d + 8) 362 [.index (0), ra_I x1, ra_I x2, .index (191)] σ (fun r s => rI r ∧ CH σ s) := by
  refine ra_enter (nn := 1) mt_362 rfl (Nat.le_of_ble_eq_true rfl) rfl (fun h => absurd h (by decide +kernel)) ?_
  refine ra_load rfl rfl rfl rfl ?_
  refine ra_iconst rfl ?_
  refine ra_load rfl rfl rfl rfl ?_
  refine ra_load rfl rfl rfl rfl ?_
  refine ra_load rfl rfl rfl rfl ?_
  refine ra_call (b1 := 0) (b2 := 1) rfl (ct_159 rfl lk_9_82 (Or.inl rfl) sh_0 (Nat.le_of_ble_eq_true rfl)) (sp_159 hx1 hx2 hci) (fun t s1 h => ?_) (by decide) (fun E s1 h => ?_)
  · obtain ⟨⟨z2, hz2, e⟩ | ⟨E, -, e⟩, hS⟩ := h
    · cases e
      refine ra_i2l rfl hz2 ?_
      refine ra_lastore rfl sh_191 rfl (by decide) (by decide) (by decide) hz2 ?_
      refine ra_new Fr_up (fun s3 hs3 => ?_)
      refine ra_goto rfl rfl ?_
      refine ra_iconst rfl ?_
      exact ra_ireturn rfl rfl ⟨⟨_, (by first | omega | (unfold ra_in at *; omega)), rfl⟩, (ch_up (ch_op hS) hs3)⟩
    · cases e
  · obtain ⟨⟨z2, hz2, e⟩ | ⟨E2, hE, e⟩, hS⟩ := h
    · cases e
    · cases e
      simp only [List.mem_cons, List.not_mem_nil, or_false] at hE
      rcases hE with rfl | rfl
      · refine Or.inr ⟨13, 4, 2, 0, (fd_y (by decide) (by decide) lk_9_49 nc_SS rfl (by decide)), Or.inl ⟨rfl, rfl⟩, by decide, by decide, ?_⟩
        refine ra_iconst rfl ?_
        exact ra_ireturn rfl rfl ⟨⟨_, (by first | omega | (unfold ra_in at *; omega)), rfl⟩, (ch_op hS)⟩
      · refine Or.inr ⟨17, 4, 2, 0, (fd_n (by decide) (by decide) lk_9_49 nc_NS rfl (by decide) (fd_y (by decide) (by decide) lk_9_19 nc_NN rfl (by decide))), Or.inl ⟨rfl, rfl⟩, by decide, by decide, ?_⟩
        refine ra_iconst rfl ?_
        exact ra_ireturn rfl rfl ⟨⟨_, (by first | omega | (unfold ra_in at *; omega)), rfl⟩, (ch_op hS)⟩
theorem sp_363 {n : Nat} {f : Nat → Int32} {d : Nat} {x1 : Int} {σ : ra_V} (hx1 : ra_in x1) (hci : CI σ) : ra_C (g_Gs n f) g_sh 1 (d + 8) 363 [.index (0), ra_I x1, .index (191)] σ (fun r s => rI r ∧ CH σ s) := by
  refine ra_enter (nn := 1) mt_363 rfl (Nat.le_of_ble_eq_true rfl) rfl (fun h => absurd h (by decide +kernel)) ?_
  refine ra_load rfl rfl rfl rfl ?_
  refine ra_iconst rfl ?_
  refine ra_load rfl rfl rfl rfl ?_
  refine ra_load rfl rfl rfl rfl ?_
  refine ra_call (b1 := 0) (b2 := 1) rfl (ct_160 rfl lk_9_85 (Or.inl rfl) sh_0 (Nat.le_of_ble_eq_true rfl)) (sp_160 hx1 hci) (fun t s1 h => ?_) (by decide) (fun E s1 h => ?_)
  · obtain ⟨⟨z2, hz2, e⟩ | ⟨E, -, e⟩, hS⟩ := h
    · cases e
      refine ra_i2l rfl hz2 ?_
      refine ra_lastore rfl sh_191 rfl (by decide) (by decide) (by decide) hz2 ?_
      refine ra_new Fr_up (fun s3 hs3 => ?_)
      refine ra_goto rfl rfl ?_
      refine ra_iconst rfl ?_
      exact ra_ireturn rfl rfl ⟨⟨_, (by first | omega | (unfold ra_in at *; omega)), rfl⟩, (ch_up (ch_op hS) hs3)⟩
    · cases e
  · obtain ⟨⟨z2, hz2, e⟩ | ⟨E2, hE, e⟩, hS⟩ := h
    · cases e
    · cases e
      simp only [List.mem_cons, List.not_mem_nil, or_false] at hE
      rcases hE with rfl | rfl
      · refine Or.inr ⟨12, 3, 1, 0, (fd_y (by decide) (by decide) lk_9_13 nc_AA rfl (by decide)), Or.inr ⟨(3 : Fin 4), rfl, rfl, rfl⟩, by decide, by decide, ?_⟩
        refine ra_iconst rfl ?_
        exact ra_ireturn rfl rfl ⟨⟨_, (by first | omega | (unfold ra_in at *; omega)), rfl⟩, (ch_op hS)⟩
      · refine Or.inr ⟨15, 3, 1, 0, (fd_n (by decide) (by decide) lk_9_13 nc_SA rfl (by decide) (fd_y (by decide) (by decide) lk_9_49 nc_SS rfl (by decide))), Or.inr ⟨(3 : Fin 4), rfl, rfl, rfl⟩, by decide, by decide, ?_⟩
        refine ra_iconst rfl ?_
        exact ra_ireturn rfl rfl ⟨⟨_, (by first | omega | (unfold ra_in at *; omega)), rfl⟩, (ch_op hS)⟩
theorem sp_364 {n : Nat} {f : Nat → Int32} {d : Nat}  {σ : ra_V} (hci : CI σ) : ra_C (g_Gs n f) g_sh 1 (d + 8) 364 [.index (0), .index (191)] σ (fun r s => rI r ∧ CH σ s) := by
  refine ra_enter (nn := 1) mt_364 rfl (Nat.le_of_ble_eq_true rfl) rfl (fun h => absurd h (by decide +kernel)) ?_
  refine ra_load rfl rfl rfl rfl ?_
  refine ra_iconst rfl ?_
  refine ra_load rfl rfl rfl rfl ?_
  refine ra_call (b1 := 0) (b2 := 1) rfl (ct_161 rfl lk_9_88 (Or.inl rfl) sh_0 (Nat.le_of_ble_eq_true rfl)) (sp_161 hci) (fun t s1 h => ?_) (by decide) (fun E s1 h => ?_)
  · obtain ⟨⟨z2, hz2, e⟩ | ⟨E, -, e⟩, hS⟩ := h
    · cases e
      refine ra_i2l rfl hz2 ?_
      refine ra_lastore rfl sh_191 rfl (by decide) (by decide) (by decide) hz2 ?_
      refine ra_new Fr_up (fun s3 hs3 => ?_)
      refine ra_goto rfl rfl ?_
      refine ra_iconst rfl ?_
      exact ra_ireturn rfl rfl ⟨⟨_, (by first | omega | (unfold ra_in at *; omega)), rfl⟩, (ch_up (ch_op hS) hs3)⟩
    · cases e
  · obtain ⟨⟨z2, hz2, e⟩ | ⟨E2, hE, e⟩, hS⟩ := h
    · cases e
    · cases e
      simp only [List.mem_cons, List.not_mem_nil, or_false] at hE
      subst hE
      · refine Or.inr ⟨11, 2, 1, 0, (fd_y (by decide) (by decide) lk_9_49 nc_SS rfl (by decide)), Or.inr ⟨(2 : Fin 4), rfl, rfl, rfl⟩, by decide, by decide, ?_⟩
        refine ra_iconst rfl ?_
        exact ra_ireturn rfl rfl ⟨⟨_, (by first | omega | (unfold ra_in at *; omega)), rfl⟩, (ch_op hS)⟩
theorem sp_365 {n : Nat} {f : Nat → Int32} {d : Nat}  {σ : ra_V} (hci : CI σ) : ra_C (g_Gs n f) g_sh 1 (d + 8) 365 [.index (0), .index (191)] σ (fun r s => rI r ∧ CH σ s) := by
  refine ra_enter (nn := 1) mt_365 rfl (Nat.le_of_ble_eq_true rfl) rfl (fun h => absurd h (by decide +kernel)) ?_
  refine ra_load rfl rfl rfl rfl ?_
  refine ra_iconst rfl ?_
  refine ra_load rfl rfl rfl rfl ?_
  refine ra_call (b1 := 0) (b2 := 1) rfl (ct_162 rfl lk_9_92 (Or.inl rfl) sh_0 (Nat.le_of_ble_eq_true rfl)) (sp_162 hci) (fun t s1 h => ?_) (by decide) (fun E s1 h => ?_)
  · obtain ⟨⟨z2, hz2, e⟩ | ⟨E, -, e⟩, hS⟩ := h
    · cases e
      refine ra_i2l rfl hz2 ?_
      refine ra_lastore rfl sh_191 rfl (by decide) (by decide) (by decide) hz2 ?_
      refine ra_new Fr_up (fun s3 hs3 => ?_)
      refine ra_goto rfl rfl ?_
      refine ra_iconst rfl ?_
      exact ra_ireturn rfl rfl ⟨⟨_, (by first | omega | (unfold ra_in at *; omega)), rfl⟩, (ch_up (ch_op hS) hs3)⟩
    · cases e
  · obtain ⟨⟨z2, hz2, e⟩ | ⟨E2, hE, e⟩, hS⟩ := h
    · cases e
    · cases e
      simp only [List.mem_cons, List.not_mem_nil, or_false] at hE
      subst hE
      · refine Or.inr ⟨11, 2, 1, 0, (fd_y (by decide) (by decide) lk_9_49 nc_SS rfl (by decide)), Or.inr ⟨(2 : Fin 4), rfl, rfl, rfl⟩, by decide, by decide, ?_⟩
        refine ra_iconst rfl ?_
        exact ra_ireturn rfl rfl ⟨⟨_, (by first | omega | (unfold ra_in at *; omega)), rfl⟩, (ch_op hS)⟩
theorem sp_366 {n : Nat} {f : Nat → Int32} {d : Nat} {x1 : Int} {σ : ra_V} (hx1 : ra_in x1) (hci : CI σ) : ra_C (g_Gs n f) g_sh 1 (d + 7) 366 [.index (0), ra_I x1, .index (191)] σ (fun r s => rI r ∧ CH σ s) := by
  refine ra_enter (nn := 1) mt_366 rfl (Nat.le_of_ble_eq_true rfl) rfl (fun h => absurd h (by decide +kernel)) ?_
  refine ra_load rfl rfl rfl rfl ?_
  refine ra_iconst rfl ?_
  refine ra_load rfl rfl rfl rfl ?_
  refine ra_load rfl rfl rfl rfl ?_
  refine ra_call (b1 := 0) (b2 := 1) rfl (ct_163 rfl lk_9_95 (Or.inl rfl) sh_0 (Nat.le_of_ble_eq_true rfl)) (sp_163 hx1) (fun t s1 h => ?_) (by decide) (fun E s1 h => ?_)
  · obtain ⟨⟨z2, hz2, e⟩ | ⟨E, -, e⟩, hS⟩ := h
    · cases e
      refine ra_i2l rfl hz2 ?_
      refine ra_lastore rfl sh_191 rfl (by decide) (by decide) (by decide) hz2 ?_
      refine ra_new Fr_up (fun s3 hs3 => ?_)
      refine ra_goto rfl rfl ?_
      refine ra_iconst rfl ?_
      exact ra_ireturn rfl rfl ⟨⟨_, (by first | omega | (unfold ra_in at *; omega)), rfl⟩, (ch_up (ch_e hS hci) hs3)⟩
    · cases e
  · obtain ⟨⟨z2, hz2, e⟩ | ⟨E2, hE, e⟩, hS⟩ := h
    · cases e
    · cases e
      simp only [List.mem_cons, List.not_mem_nil, or_false] at hE
      subst hE
      · refine Or.inr ⟨12, 3, 1, 0, (fd_y (by decide) (by decide) lk_9_13 nc_AA rfl (by decide)), Or.inr ⟨(3 : Fin 4), rfl, rfl, rfl⟩, by decide, by decide, ?_⟩
        refine ra_iconst rfl ?_
        exact ra_ireturn rfl rfl ⟨⟨_, (by first | omega | (unfold ra_in at *; omega)), rfl⟩, (ch_e hS hci)⟩
theorem sp_367 {n : Nat} {f : Nat → Int32} {d : Nat} {x1 : Int} {σ : ra_V} (hx1 : ra_in x1) (hci : CI σ) : ra_C (g_Gs n f) g_sh 1 (d + 8) 367 [.index (0), ra_I x1, .index (191)] σ (fun r s => rI r ∧ CH σ s) := by
  refine ra_enter (nn := 1) mt_367 rfl (Nat.le_of_ble_eq_true rfl) rfl (fun h => absurd h (by decide +kernel)) ?_
  refine ra_load rfl rfl rfl rfl ?_
  refine ra_iconst rfl ?_
  refine ra_load rfl rfl rfl rfl ?_
  refine ra_load rfl rfl rfl rfl ?_
  refine ra_call (b1 := 0) (b2 := 1) rfl (ct_157 rfl lk_9_98 (Or.inl rfl) sh_0 (Nat.le_of_ble_eq_true rfl)) (sp_157 hx1) (fun t s1 h => ?_) (by decide) (fun E s1 h => ?_)
  · obtain ⟨⟨z2, hz2, e⟩ | ⟨E, -, e⟩, hS⟩ := h
    · cases e
      refine ra_i2l rfl hz2 ?_
      refine ra_lastore rfl sh_191 rfl (by decide) (by decide) (by decide) hz2 ?_
      refine ra_new Fr_up (fun s3 hs3 => ?_)
      refine ra_goto rfl rfl ?_
      refine ra_iconst rfl ?_
      exact ra_ireturn rfl rfl ⟨⟨_, (by first | omega | (unfold ra_in at *; omega)), rfl⟩, (ch_up (ch_e hS hci) hs3)⟩
    · cases e
  · obtain ⟨⟨z2, hz2, e⟩ | ⟨E2, hE, e⟩, hS⟩ := h
    · cases e
    · cases e
      simp only [List.mem_cons, List.not_mem_nil, or_false] at hE
      subst hE
      · refine Or.inr ⟨12, 3, 1, 0, (fd_y (by decide) (by decide) lk_9_19 nc_NN rfl (by decide)), Or.inr ⟨(3 : Fin 4), rfl, rfl, rfl⟩, by decide, by decide, ?_⟩
        refine ra_iconst rfl ?_
        exact ra_ireturn rfl rfl ⟨⟨_, (by first | omega | (unfold ra_in at *; omega)), rfl⟩, (ch_e hS hci)⟩
theorem sp_368 {n : Nat} {f : Nat → Int32} {d : Nat}  {σ : ra_V} (hci : CI σ) : ra_C (g_Gs n f) g_sh 1 (d + 9) 368 [.index (0), .index (191)] σ (fun r s => rI r ∧ CH σ s) := by
  refine ra_enter (nn := 1) mt_368 rfl (Nat.le_of_ble_eq_true rfl) rfl (fun h => absurd h (by decide +kernel)) ?_
  refine ra_load rfl rfl rfl rfl ?_
  refine ra_iconst rfl ?_
  refine ra_load rfl rfl rfl rfl ?_
  refine ra_call (b1 := 0) (b2 := 1) rfl (ct_167 rfl lk_9_101 (Or.inl rfl) sh_0 (Nat.le_of_ble_eq_true rfl)) (sp_167 hci) (fun t s1 h => ?_) (by decide) (fun E s1 h => ?_)
  · obtain ⟨⟨z2, hz2, e⟩ | ⟨E, -, e⟩, hS⟩ := h
    · cases e
      refine ra_i2l rfl hz2 ?_
      refine ra_lastore rfl sh_191 rfl (by decide) (by decide) (by decide) hz2 ?_
      refine ra_new Fr_up (fun s3 hs3 => ?_)
      refine ra_goto rfl rfl ?_
      refine ra_iconst rfl ?_
      exact ra_ireturn rfl rfl ⟨⟨_, (by first | omega | (unfold ra_in at *; omega)), rfl⟩, (ch_up (ch_op hS) hs3)⟩
    · cases e
  · obtain ⟨⟨z2, hz2, e⟩ | ⟨E2, hE, e⟩, hS⟩ := h
    · cases e
    · cases e
      simp only [List.mem_cons, List.not_mem_nil, or_false] at hE
      subst hE
      · refine Or.inr ⟨11, 2, 1, 0, (fd_y (by decide) (by decide) lk_9_49 nc_SS rfl (by decide)), Or.inr ⟨(2 : Fin 4), rfl, rfl, rfl⟩, by decide, by decide, ?_⟩
        refine ra_iconst rfl ?_
        exact ra_ireturn rfl rfl ⟨⟨_, (by first | omega | (unfold ra_in at *; omega)), rfl⟩, (ch_op hS)⟩
theorem sp_369 {n : Nat} {f : Nat → Int32} {d : Nat} {x1 : Int} {σ : ra_V} (hx1 : ra_in x1) (hci : CI σ) : ra_C (g_Gs n f) g_sh 1 (d + 8) 369 [.index (0), ra_I x1, .index (191)] σ (fun r s => rI r ∧ CH σ s) := by
  refine ra_enter (nn := 1) mt_369 rfl (Nat.le_of_ble_eq_true rfl) rfl (fun h => absurd h (by decide +kernel)) ?_
  refine ra_load rfl rfl rfl rfl ?_
  refine ra_iconst rfl ?_
  refine ra_load rfl rfl rfl rfl ?_
  refine ra_load rfl rfl rfl rfl ?_
  refine ra_call (b1 := 0) (b2 := 1) rfl (ct_169 rfl lk_9_104 (Or.inl rfl) sh_0 (Nat.le_of_ble_eq_true rfl)) (sp_169 hx1 hci) (fun t s1 h => ?_) (by decide) (fun E s1 h => ?_)
  · obtain ⟨⟨z2, hz2, e⟩ | ⟨E, -, e⟩, hS⟩ := h
    · cases e
      refine ra_i2l rfl hz2 ?_
      refine ra_lastore rfl sh_191 rfl (by decide) (by decide) (by decide) hz2 ?_
      refine ra_new Fr_up (fun s3 hs3 => ?_)
      refine ra_goto rfl rfl ?_
      refine ra_iconst rfl ?_
      exact ra_ireturn rfl rfl ⟨⟨_, (by first | omega | (unfold ra_in at *; omega)), rfl⟩, (ch_up (ch_op hS) hs3)⟩
    · cases e
  · obtain ⟨⟨z2, hz2, e⟩ | ⟨E2, hE, e⟩, hS⟩ := h
    · cases e
    · cases e
      simp only [List.mem_cons, List.not_mem_nil, or_false] at hE
      rcases hE with rfl | rfl
      · refine Or.inr ⟨12, 3, 1, 0, (fd_y (by decide) (by decide) lk_9_13 nc_AA rfl (by decide)), Or.inr ⟨(3 : Fin 4), rfl, rfl, rfl⟩, by decide, by decide, ?_⟩
        refine ra_iconst rfl ?_
        exact ra_ireturn rfl rfl ⟨⟨_, (by first | omega | (unfold ra_in at *; omega)), rfl⟩, (ch_op hS)⟩
      · refine Or.inr ⟨15, 3, 1, 0, (fd_n (by decide) (by decide) lk_9_13 nc_SA rfl (by decide) (fd_y (by decide) (by decide) lk_9_49 nc_SS rfl (by decide))), Or.inr ⟨(3 : Fin 4), rfl, rfl, rfl⟩, by decide, by decide, ?_⟩
        refine ra_iconst rfl ?_
        exact ra_ireturn rfl rfl ⟨⟨_, (by first | omega | (unfold ra_in at *; omega)), rfl⟩, (ch_op hS)⟩
theorem sp_370 {n : Nat} {f : Nat → Int32} {d : Nat} {x1 : Int} {σ : ra_V} (hx1 : ra_in x1) (hci : CI σ) : ra_C (g_Gs n f) g_sh 1 (d + 7) 370 [.index (0), ra_I x1, .index (191)] σ (fun r s => rI r ∧ CH σ s) := by
  refine ra_enter (nn := 1) mt_370 rfl (Nat.le_of_ble_eq_true rfl) rfl (fun h => absurd h (by decide +kernel)) ?_
  refine ra_load rfl rfl rfl rfl ?_
  refine ra_iconst rfl ?_
  refine ra_load rfl rfl rfl rfl ?_
  refine ra_load rfl rfl rfl rfl ?_
  refine ra_call (b1 := 0) (b2 := 1) rfl (ct_130 rfl lk_9_107 (Or.inl rfl) sh_0 (Nat.le_of_ble_eq_true rfl)) (sp_130 hx1) (fun t s1 h => ?_) (by decide) (fun E s1 h => ?_)
  · obtain ⟨⟨z2, hz2, e⟩ | ⟨E, -, e⟩, hS⟩ := h
    · cases e
      refine ra_i2l rfl hz2 ?_
      refine ra_lastore rfl sh_191 rfl (by decide) (by decide) (by decide) hz2 ?_
      refine ra_new Fr_up (fun s3 hs3 => ?_)
      refine ra_goto rfl rfl ?_
      refine ra_iconst rfl ?_
      exact ra_ireturn rfl rfl ⟨⟨_, (by first | omega | (unfold ra_in at *; omega)), rfl⟩, (ch_up (ch_e hS hci) hs3)⟩
    · cases e
  · obtain ⟨⟨z2, hz2, e⟩ | ⟨E2, hE, e⟩, hS⟩ := h
    · cases e
    · cases e
      simp only [List.mem_cons, List.not_mem_nil, or_false] at hE
      subst hE
      · refine Or.inr ⟨12, 3, 1, 0, (fd_y (by decide) (by decide) lk_9_13 nc_AA rfl (by decide)), Or.inr ⟨(3 : Fin 4), rfl, rfl, rfl⟩, by decide, by decide, ?_⟩
        refine ra_iconst rfl ?_
        exact ra_ireturn rfl rfl ⟨⟨_, (by first | omega | (unfold ra_in at *; omega)), rfl⟩, (ch_e hS hci)⟩
theorem sp_371 {n : Nat} {f : Nat → Int32} {d : Nat} {x1 : Int} {σ : ra_V} (hx1 : ra_in x1) (hci : CI σ) : ra_C (g_Gs n f) g_sh 1 (d + 7) 371 [.index (0), ra_I x1, .index (191)] σ (fun r s => rI r ∧ CH σ s) := by
  refine ra_enter (nn := 1) mt_371 rfl (Nat.le_of_ble_eq_true rfl) rfl (fun h => absurd h (by decide +kernel)) ?_
  refine ra_load rfl rfl rfl rfl ?_
  refine ra_iconst rfl ?_
  refine ra_load rfl rfl rfl rfl ?_
  refine ra_load rfl rfl rfl rfl ?_
  refine ra_call (b1 := 0) (b2 := 1) rfl (ct_164 rfl lk_9_110 (Or.inl rfl) sh_0 (Nat.le_of_ble_eq_true rfl)) (sp_164 hx1) (fun t s1 h => ?_) (by decide) (fun E s1 h => ?_)
  · obtain ⟨⟨z2, hz2, e⟩ | ⟨E, -, e⟩, hS⟩ := h
    · cases e
      refine ra_i2l rfl hz2 ?_
      refine ra_lastore rfl sh_191 rfl (by decide) (by decide) (by decide) hz2 ?_
      refine ra_new Fr_up (fun s3 hs3 => ?_)
      refine ra_goto rfl rfl ?_
      refine ra_iconst rfl ?_
      exact ra_ireturn rfl rfl ⟨⟨_, (by first | omega | (unfold ra_in at *; omega)), rfl⟩, (ch_up (ch_e hS hci) hs3)⟩
    · cases e
  · obtain ⟨⟨z2, hz2, e⟩ | ⟨E2, hE, e⟩, hS⟩ := h
    · cases e
    · cases e
      simp only [List.mem_cons, List.not_mem_nil, or_false] at hE
      subst hE
      · refine Or.inr ⟨12, 3, 1, 0, (fd_y (by decide) (by decide) lk_9_13 nc_AA rfl (by decide)), Or.inr ⟨(3 : Fin 4), rfl, rfl, rfl⟩, by decide, by decide, ?_⟩
        refine ra_iconst rfl ?_
        exact ra_ireturn rfl rfl ⟨⟨_, (by first | omega | (unfold ra_in at *; omega)), rfl⟩, (ch_e hS hci)⟩
theorem sp_372 {n : Nat} {f : Nat → Int32} {d : Nat} {x1 : Int} {σ : ra_V} (hx1 : ra_in x1) (hci : CI σ) : ra_C (g_Gs n f) g_sh 1 (d + 8) 372 [.index (0), ra_I x1, .index (191)] σ (fun r s => rI r ∧ CH σ s) := by
  refine ra_enter (nn := 1) mt_372 rfl (Nat.le_of_ble_eq_true rfl) rfl (fun h => absurd h (by decide +kernel)) ?_
  refine ra_load rfl rfl rfl rfl ?_
  refine ra_iconst rfl ?_
  refine ra_load rfl rfl rfl rfl ?_
  refine ra_load rfl rfl rfl rfl ?_
  refine ra_call (b1 := 0) (b2 := 1) rfl (ct_131 rfl lk_9_113 (Or.inl rfl) sh_0 (Nat.le_of_ble_eq_true rfl)) (sp_131 hx1) (fun t s1 h => ?_) (by decide) (fun E s1 h => ?_)
  · obtain ⟨⟨z2, hz2, e⟩ | ⟨E, -, e⟩, hS⟩ := h
    · cases e
      refine ra_i2l rfl hz2 ?_
      refine ra_lastore rfl sh_191 rfl (by decide) (by decide) (by decide) hz2 ?_
      refine ra_new Fr_up (fun s3 hs3 => ?_)
      refine ra_goto rfl rfl ?_
      refine ra_iconst rfl ?_
      exact ra_ireturn rfl rfl ⟨⟨_, (by first | omega | (unfold ra_in at *; omega)), rfl⟩, (ch_up (ch_e hS hci) hs3)⟩
    · cases e
  · obtain ⟨⟨z2, hz2, e⟩ | ⟨E2, hE, e⟩, hS⟩ := h
    · cases e
    · cases e
      simp only [List.mem_cons, List.not_mem_nil, or_false] at hE
      subst hE
      · refine Or.inr ⟨12, 3, 1, 0, (fd_y (by decide) (by decide) lk_9_19 nc_NN rfl (by decide)), Or.inr ⟨(3 : Fin 4), rfl, rfl, rfl⟩, by decide, by decide, ?_⟩
        refine ra_iconst rfl ?_
        exact ra_ireturn rfl rfl ⟨⟨_, (by first | omega | (unfold ra_in at *; omega)), rfl⟩, (ch_e hS hci)⟩
theorem sp_373 {n : Nat} {f : Nat → Int32} {d : Nat} {x1 : Int} {x2 : Int} {σ : ra_V} (hx1 : ra_in x1) (hx2 : ra_in x2) (hci : CI σ) : ra_C (g_Gs n f) g_sh 1 (d + 8) 373 [.index (0), ra_I x1, ra_I x2, .index (191)] σ (fun r s => rI r ∧ CH σ s) := by
  refine ra_enter (nn := 1) mt_373 rfl (Nat.le_of_ble_eq_true rfl) rfl (fun h => absurd h (by decide +kernel)) ?_
  refine ra_load rfl rfl rfl rfl ?_
  refine ra_iconst rfl ?_
  refine ra_load rfl rfl rfl rfl ?_
  refine ra_load rfl rfl rfl rfl ?_
  refine ra_load rfl rfl rfl rfl ?_
  refine ra_call (b1 := 0) (b2 := 1) rfl (ct_150 rfl lk_9_116 (Or.inl rfl) sh_0 (Nat.le_of_ble_eq_true rfl)) (sp_150 hx1 hx2 hci) (fun t s1 h => ?_) (by decide) (fun E s1 h => ?_)
  · obtain ⟨⟨z2, hz2, e⟩ | ⟨E, -, e⟩, hS⟩ := h
    · cases e
      refine ra_i2l rfl hz2 ?_
      refine ra_lastore rfl sh_191 rfl (by decide) (by decide) (by decide) hz2 ?_
      refine ra_new Fr_up (fun s3 hs3 => ?_)
      refine ra_goto rfl rfl ?_
      refine ra_iconst rfl ?_
      exact ra_ireturn rfl rfl ⟨⟨_, (by first | omega | (unfold ra_in at *; omega)), rfl⟩, (ch_up (ch_op hS) hs3)⟩
    · cases e
  · obtain ⟨⟨z2, hz2, e⟩ | ⟨E2, hE, e⟩, hS⟩ := h
    · cases e
    · cases e
      simp only [List.mem_cons, List.not_mem_nil, or_false] at hE
      rcases hE with rfl | rfl | rfl
      · refine Or.inr ⟨13, 4, 2, 0, (fd_y (by decide) (by decide) lk_9_13 nc_AA rfl (by decide)), Or.inl ⟨rfl, rfl⟩, by decide, by decide, ?_⟩
        refine ra_iconst rfl ?_
        exact ra_ireturn rfl rfl ⟨⟨_, (by first | omega | (unfold ra_in at *; omega)), rfl⟩, (ch_op hS)⟩
      · refine Or.inr ⟨17, 4, 2, 0, (fd_n (by decide) (by decide) lk_9_13 nc_SA rfl (by decide) (fd_y (by decide) (by decide) lk_9_49 nc_SS rfl (by decide))), Or.inl ⟨rfl, rfl⟩, by decide, by decide, ?_⟩
        refine ra_iconst rfl ?_
        exact ra_ireturn rfl rfl ⟨⟨_, (by first | omega | (unfold ra_in at *; omega)), rfl⟩, (ch_op hS)⟩
      · refine Or.inr ⟨21, 4, 2, 0, (fd_n (by decide) (by decide) lk_9_13 nc_NA rfl (by decide) (fd_n (by decide) (by decide) lk_9_49 nc_NS rfl (by decide) (fd_y (by decide) (by decide) lk_9_19 nc_NN rfl (by decide)))), Or.inl ⟨rfl, rfl⟩, by decide, by decide, ?_⟩
        refine ra_iconst rfl ?_
        exact ra_ireturn rfl rfl ⟨⟨_, (by first | omega | (unfold ra_in at *; omega)), rfl⟩, (ch_op hS)⟩
theorem sp_374 {n : Nat} {f : Nat → Int32} {d : Nat} {x1 : Int} {σ : ra_V} (hx1 : ra_in x1) (hci : CI σ) : ra_C (g_Gs n f) g_sh 1 (d + 8) 374 [.index (0), ra_I x1, .index (191)] σ (fun r s => rI r ∧ CH σ s) := by
  refine ra_enter (nn := 1) mt_374 rfl (Nat.le_of_ble_eq_true rfl) rfl (fun h => absurd h (by decide +kernel)) ?_
  refine ra_load rfl rfl rfl rfl ?_
  refine ra_iconst rfl ?_
  refine ra_load rfl rfl rfl rfl ?_
  refine ra_load rfl rfl rfl rfl ?_
  refine ra_call (b1 := 0) (b2 := 1) rfl (ct_151 rfl lk_9_119 (Or.inl rfl) sh_0 (Nat.le_of_ble_eq_true rfl)) (sp_151 hx1 hci) (fun t s1 h => ?_) (by decide) (fun E s1 h => ?_)
  · obtain ⟨⟨z2, hz2, e⟩ | ⟨E, -, e⟩, hS⟩ := h
    · cases e
      refine ra_i2l rfl hz2 ?_
      refine ra_lastore rfl sh_191 rfl (by decide) (by decide) (by decide) hz2 ?_
      refine ra_new Fr_up (fun s3 hs3 => ?_)
      refine ra_goto rfl rfl ?_
      refine ra_iconst rfl ?_
      exact ra_ireturn rfl rfl ⟨⟨_, (by first | omega | (unfold ra_in at *; omega)), rfl⟩, (ch_up (ch_op hS) hs3)⟩
    · cases e
  · obtain ⟨⟨z2, hz2, e⟩ | ⟨E2, hE, e⟩, hS⟩ := h
    · cases e
    · cases e
      simp only [List.mem_cons, List.not_mem_nil, or_false] at hE
      rcases hE with rfl | rfl
      · refine Or.inr ⟨12, 3, 1, 0, (fd_y (by decide) (by decide) lk_9_49 nc_SS rfl (by decide)), Or.inr ⟨(3 : Fin 4), rfl, rfl, rfl⟩, by decide, by decide, ?_⟩
        refine ra_iconst rfl ?_
        exact ra_ireturn rfl rfl ⟨⟨_, (by first | omega | (unfold ra_in at *; omega)), rfl⟩, (ch_op hS)⟩
      · refine Or.inr ⟨15, 3, 1, 0, (fd_n (by decide) (by decide) lk_9_49 nc_NS rfl (by decide) (fd_y (by decide) (by decide) lk_9_19 nc_NN rfl (by decide))), Or.inr ⟨(3 : Fin 4), rfl, rfl, rfl⟩, by decide, by decide, ?_⟩
        refine ra_iconst rfl ?_
        exact ra_ireturn rfl rfl ⟨⟨_, (by first | omega | (unfold ra_in at *; omega)), rfl⟩, (ch_op hS)⟩
theorem sp_375 {n : Nat} {f : Nat → Int32} {d : Nat} {x1 : Int} {σ : ra_V} (hx1 : ra_in x1) (hci : CI σ) : ra_C (g_Gs n f) g_sh 1 (d + 8) 375 [.index (0), ra_I x1, .index (191)] σ (fun r s => rI r ∧ CH σ s) := by
  refine ra_enter (nn := 1) mt_375 rfl (Nat.le_of_ble_eq_true rfl) rfl (fun h => absurd h (by decide +kernel)) ?_
  refine ra_load rfl rfl rfl rfl ?_
  refine ra_iconst rfl ?_
  refine ra_load rfl rfl rfl rfl ?_
  refine ra_load rfl rfl rfl rfl ?_
  refine ra_call (b1 := 0) (b2 := 1) rfl (ct_146 rfl lk_9_122 (Or.inl rfl) sh_0 (Nat.le_of_ble_eq_true rfl)) (sp_146 hx1 hci) (fun t s1 h => ?_) (by decide) (fun E s1 h => ?_)
  · obtain ⟨⟨z2, hz2, e⟩ | ⟨E, -, e⟩, hS⟩ := h
    · cases e
      refine ra_i2l rfl hz2 ?_
      refine ra_lastore rfl sh_191 rfl (by decide) (by decide) (by decide) hz2 ?_
      refine ra_new Fr_up (fun s3 hs3 => ?_)
      refine ra_goto rfl rfl ?_
      refine ra_iconst rfl ?_
      exact ra_ireturn rfl rfl ⟨⟨_, (by first | omega | (unfold ra_in at *; omega)), rfl⟩, (ch_up (ch_op hS) hs3)⟩
    · cases e
  · obtain ⟨⟨z2, hz2, e⟩ | ⟨E2, hE, e⟩, hS⟩ := h
    · cases e
    · cases e
      simp only [List.mem_cons, List.not_mem_nil, or_false] at hE
      rcases hE with rfl | rfl
      · refine Or.inr ⟨12, 3, 1, 0, (fd_y (by decide) (by decide) lk_9_49 nc_SS rfl (by decide)), Or.inr ⟨(3 : Fin 4), rfl, rfl, rfl⟩, by decide, by decide, ?_⟩
        refine ra_iconst rfl ?_
        exact ra_ireturn rfl rfl ⟨⟨_, (by first | omega | (unfold ra_in at *; omega)), rfl⟩, (ch_op hS)⟩
      · refine Or.inr ⟨15, 3, 1, 0, (fd_n (by decide) (by decide) lk_9_49 nc_NS rfl (by decide) (fd_y (by decide) (by decide) lk_9_19 nc_NN rfl (by decide))), Or.inr ⟨(3 : Fin 4), rfl, rfl, rfl⟩, by decide, by decide, ?_⟩
        refine ra_iconst rfl ?_
        exact ra_ireturn rfl rfl ⟨⟨_, (by first | omega | (unfold ra_in at *; omega)), rfl⟩, (ch_op hS)⟩
theorem sp_376 {n : Nat} {f : Nat → Int32} {d : Nat} {x1 : Int} {x2 : Int} {σ : ra_V} (hx1 : ra_in x1) (hx2 : ra_in x2) (hci : CI σ) : ra_C (g_Gs n f) g_sh 1 (d + 8) 376 [.index (0), ra_I x1, ra_I x2, .index (191)] σ (fun r s => rI r ∧ CH σ s) := by
  refine ra_enter (nn := 1) mt_376 rfl (Nat.le_of_ble_eq_true rfl) rfl (fun h => absurd h (by decide +kernel)) ?_
  refine ra_load rfl rfl rfl rfl ?_
  refine ra_iconst rfl ?_
  refine ra_load rfl rfl rfl rfl ?_
  refine ra_load rfl rfl rfl rfl ?_
  refine ra_load rfl rfl rfl rfl ?_
  refine ra_call (b1 := 0) (b2 := 1) rfl (ct_156 rfl lk_9_125 (Or.inl rfl) sh_0 (Nat.le_of_ble_eq_true rfl)) (sp_156 hx1 hx2) (fun t s1 h => ?_) (by decide) (fun E s1 h => ?_)
  · obtain ⟨⟨z2, hz2, e⟩ | ⟨E, -, e⟩, hS⟩ := h
    · cases e
      refine ra_i2l rfl hz2 ?_
      refine ra_lastore rfl sh_191 rfl (by decide) (by decide) (by decide) hz2 ?_
      refine ra_new Fr_up (fun s3 hs3 => ?_)
      refine ra_goto rfl rfl ?_
      refine ra_iconst rfl ?_
      exact ra_ireturn rfl rfl ⟨⟨_, (by first | omega | (unfold ra_in at *; omega)), rfl⟩, (ch_up (ch_e hS hci) hs3)⟩
    · cases e
  · obtain ⟨⟨z2, hz2, e⟩ | ⟨E2, hE, e⟩, hS⟩ := h
    · cases e
    · cases e
      simp only [List.mem_cons, List.not_mem_nil, or_false] at hE
      subst hE
      · refine Or.inr ⟨13, 4, 2, 0, (fd_y (by decide) (by decide) lk_9_19 nc_NN rfl (by decide)), Or.inl ⟨rfl, rfl⟩, by decide, by decide, ?_⟩
        refine ra_iconst rfl ?_
        exact ra_ireturn rfl rfl ⟨⟨_, (by first | omega | (unfold ra_in at *; omega)), rfl⟩, (ch_e hS hci)⟩
theorem sp_377 {n : Nat} {f : Nat → Int32} {d : Nat} {x1 : Int} {σ : ra_V} (hx1 : ra_in x1) (hci : CI σ) : ra_C (g_Gs n f) g_sh 1 (d + 8) 377 [.index (0), ra_I x1, .index (191)] σ (fun r s => rI r ∧ CH σ s) := by
  refine ra_enter (nn := 1) mt_377 rfl (Nat.le_of_ble_eq_true rfl) rfl (fun h => absurd h (by decide +kernel)) ?_
  refine ra_load rfl rfl rfl rfl ?_
  refine ra_iconst rfl ?_
  refine ra_load rfl rfl rfl rfl ?_
  refine ra_load rfl rfl rfl rfl ?_
  refine ra_call (b1 := 0) (b2 := 1) rfl (ct_158 rfl lk_9_128 (Or.inl rfl) sh_0 (Nat.le_of_ble_eq_true rfl)) (sp_158 hx1) (fun t s1 h => ?_) (by decide) (fun E s1 h => ?_)
  · obtain ⟨⟨z2, hz2, e⟩ | ⟨E, -, e⟩, hS⟩ := h
    · cases e
      refine ra_i2l rfl hz2 ?_
      refine ra_lastore rfl sh_191 rfl (by decide) (by decide) (by decide) hz2 ?_
      refine ra_new Fr_up (fun s3 hs3 => ?_)
      refine ra_goto rfl rfl ?_
      refine ra_iconst rfl ?_
      exact ra_ireturn rfl rfl ⟨⟨_, (by first | omega | (unfold ra_in at *; omega)), rfl⟩, (ch_up (ch_e hS hci) hs3)⟩
    · cases e
  · obtain ⟨⟨z2, hz2, e⟩ | ⟨E2, hE, e⟩, hS⟩ := h
    · cases e
    · cases e
      simp only [List.mem_cons, List.not_mem_nil, or_false] at hE
      subst hE
      · refine Or.inr ⟨12, 3, 1, 0, (fd_y (by decide) (by decide) lk_9_19 nc_NN rfl (by decide)), Or.inr ⟨(3 : Fin 4), rfl, rfl, rfl⟩, by decide, by decide, ?_⟩
        refine ra_iconst rfl ?_
        exact ra_ireturn rfl rfl ⟨⟨_, (by first | omega | (unfold ra_in at *; omega)), rfl⟩, (ch_e hS hci)⟩
theorem sp_378 {n : Nat} {f : Nat → Int32} {d : Nat} {x1 : Int} {σ : ra_V} (hx1 : ra_in x1) (hci : CI σ) : ra_C (g_Gs n f) g_sh 1 (d + 8) 378 [.index (0), ra_I x1, .index (191)] σ (fun r s => rI r ∧ CH σ s) := by
  refine ra_enter (nn := 1) mt_378 rfl (Nat.le_of_ble_eq_true rfl) rfl (fun h => absurd h (by decide +kernel)) ?_
  refine ra_load rfl rfl rfl rfl ?_
  refine ra_iconst rfl ?_
  refine ra_load rfl rfl rfl rfl ?_
  refine ra_load rfl rfl rfl rfl ?_
  refine ra_call (b1 := 0) (b2 := 1) rfl (ct_126 rfl lk_9_131 (Or.inl rfl) sh_0 (Nat.le_of_ble_eq_true rfl)) (sp_126 hx1) (fun t s1 h => ?_) (by decide) (fun E s1 h => ?_)
  · obtain ⟨⟨z2, hz2, e⟩ | ⟨E, -, e⟩, hS⟩ := h
    · cases e
      refine ra_i2l rfl hz2 ?_
      refine ra_lastore rfl sh_191 rfl (by decide) (by decide) (by decide) hz2 ?_
      refine ra_new Fr_up (fun s3 hs3 => ?_)
      refine ra_goto rfl rfl ?_
      refine ra_iconst rfl ?_
      exact ra_ireturn rfl rfl ⟨⟨_, (by first | omega | (unfold ra_in at *; omega)), rfl⟩, (ch_up (ch_e hS hci) hs3)⟩
    · cases e
  · obtain ⟨⟨z2, hz2, e⟩ | ⟨E2, hE, e⟩, hS⟩ := h
    · cases e
    · cases e
      simp only [List.mem_cons, List.not_mem_nil, or_false] at hE
      subst hE
      · refine Or.inr ⟨12, 3, 1, 0, (fd_y (by decide) (by decide) lk_9_19 nc_NN rfl (by decide)), Or.inr ⟨(3 : Fin 4), rfl, rfl, rfl⟩, by decide, by decide, ?_⟩
        refine ra_iconst rfl ?_
        exact ra_ireturn rfl rfl ⟨⟨_, (by first | omega | (unfold ra_in at *; omega)), rfl⟩, (ch_e hS hci)⟩
theorem sp_379 {n : Nat} {f : Nat → Int32} {d : Nat} {x1 : Int} {σ : ra_V} (hx1 : ra_in x1) (hci : CI σ) : ra_C (g_Gs n f) g_sh 1 (d + 8) 379 [.index (0), ra_I x1, .index (191)] σ (fun r s => rI r ∧ CH σ s) := by
  refine ra_enter (nn := 1) mt_379 rfl (Nat.le_of_ble_eq_true rfl) rfl (fun h => absurd h (by decide +kernel)) ?_
  refine ra_load rfl rfl rfl rfl ?_
  refine ra_iconst rfl ?_
  refine ra_load rfl rfl rfl rfl ?_
  refine ra_load rfl rfl rfl rfl ?_
  refine ra_call (b1 := 0) (b2 := 1) rfl (ct_138 rfl lk_9_134 (Or.inl rfl) sh_0 (Nat.le_of_ble_eq_true rfl)) (sp_138 hx1) (fun t s1 h => ?_) (by decide) (fun E s1 h => ?_)
  · obtain ⟨⟨z2, hz2, e⟩ | ⟨E, -, e⟩, hS⟩ := h
    · cases e
      refine ra_i2l rfl hz2 ?_
      refine ra_lastore rfl sh_191 rfl (by decide) (by decide) (by decide) hz2 ?_
      refine ra_new Fr_up (fun s3 hs3 => ?_)
      refine ra_goto rfl rfl ?_
      refine ra_iconst rfl ?_
      exact ra_ireturn rfl rfl ⟨⟨_, (by first | omega | (unfold ra_in at *; omega)), rfl⟩, (ch_up (ch_ga hS hci) hs3)⟩
    · cases e
  · obtain ⟨⟨z2, hz2, e⟩ | ⟨E2, hE, e⟩, hS⟩ := h
    · cases e
    · cases e
      simp only [List.mem_cons, List.not_mem_nil, or_false] at hE
      subst hE
      · refine Or.inr ⟨12, 3, 1, 0, (fd_y (by decide) (by decide) lk_9_24 nc_BB rfl (by decide)), Or.inr ⟨(3 : Fin 4), rfl, rfl, rfl⟩, by decide, by decide, ?_⟩
        refine ra_iconst rfl ?_
        exact ra_ireturn rfl rfl ⟨⟨_, (by first | omega | (unfold ra_in at *; omega)), rfl⟩, (ch_ga hS hci)⟩
theorem sp_380 {n : Nat} {f : Nat → Int32} {d : Nat} {x1 : Int} {σ : ra_V} (hx1 : ra_in x1) (hci : CI σ) : ra_C (g_Gs n f) g_sh 1 (d + 7) 380 [.index (0), ra_I x1, .index (191)] σ (fun r s => rI r ∧ CH σ s) := by
  refine ra_enter (nn := 1) mt_380 rfl (Nat.le_of_ble_eq_true rfl) rfl (fun h => absurd h (by decide +kernel)) ?_
  refine ra_load rfl rfl rfl rfl ?_
  refine ra_iconst rfl ?_
  refine ra_load rfl rfl rfl rfl ?_
  refine ra_load rfl rfl rfl rfl ?_
  refine ra_call (b1 := 0) (b2 := 1) rfl (ct_165 rfl lk_9_137 (Or.inl rfl) sh_0 (Nat.le_of_ble_eq_true rfl)) (sp_165 hx1) (fun t s1 h => ?_) (by decide) (fun E s1 h => ?_)
  · obtain ⟨⟨z2, hz2, e⟩ | ⟨E, -, e⟩, hS⟩ := h
    · cases e
      refine ra_i2l rfl hz2 ?_
      refine ra_lastore rfl sh_191 rfl (by decide) (by decide) (by decide) hz2 ?_
      refine ra_new Fr_up (fun s3 hs3 => ?_)
      refine ra_goto rfl rfl ?_
      refine ra_iconst rfl ?_
      exact ra_ireturn rfl rfl ⟨⟨_, (by first | omega | (unfold ra_in at *; omega)), rfl⟩, (ch_up (ch_e hS hci) hs3)⟩
    · cases e
  · obtain ⟨⟨z2, hz2, e⟩ | ⟨E2, hE, e⟩, hS⟩ := h
    · cases e
    · cases e
      simp only [List.mem_cons, List.not_mem_nil, or_false] at hE
      subst hE
      · refine Or.inr ⟨12, 3, 1, 0, (fd_y (by decide) (by decide) lk_9_13 nc_AA rfl (by decide)), Or.inr ⟨(3 : Fin 4), rfl, rfl, rfl⟩, by decide, by decide, ?_⟩
        refine ra_iconst rfl ?_
        exact ra_ireturn rfl rfl ⟨⟨_, (by first | omega | (unfold ra_in at *; omega)), rfl⟩, (ch_e hS hci)⟩
theorem sp_381 {n : Nat} {f : Nat → Int32} {d : Nat}  {σ : ra_V} (hci : CI σ) : ra_C (g_Gs n f) g_sh 1 (d + 7) 381 [.index (0), .index (191)] σ (fun r s => rI r ∧ CH σ s) := by
  refine ra_enter (nn := 1) mt_381 rfl (Nat.le_of_ble_eq_true rfl) rfl (fun h => absurd h (by decide +kernel)) ?_
  refine ra_load rfl rfl rfl rfl ?_
  refine ra_iconst rfl ?_
  refine ra_load rfl rfl rfl rfl ?_
  refine ra_call (b1 := 0) (b2 := 1) rfl (ct_174 rfl lk_9_140 (Or.inl rfl) sh_0 (Nat.le_of_ble_eq_true rfl)) (sp_174 hci) (fun t s1 h => ?_) (by decide) (fun E s1 h => ?_)
  · obtain ⟨⟨z2, hz2, e⟩ | ⟨E, -, e⟩, hS⟩ := h
    · cases e
      refine ra_i2l rfl hz2 ?_
      refine ra_lastore rfl sh_191 rfl (by decide) (by decide) (by decide) hz2 ?_
      refine ra_new Fr_up (fun s3 hs3 => ?_)
      refine ra_goto rfl rfl ?_
      refine ra_iconst rfl ?_
      exact ra_ireturn rfl rfl ⟨⟨_, (by first | omega | (unfold ra_in at *; omega)), rfl⟩, (ch_up (ch_op hS) hs3)⟩
    · cases e
  · obtain ⟨⟨z2, hz2, e⟩ | ⟨E2, hE, e⟩, hS⟩ := h
    · cases e
    · cases e
      simp only [List.mem_cons, List.not_mem_nil, or_false] at hE
      subst hE
      · refine Or.inr ⟨11, 2, 1, 0, (fd_y (by decide) (by decide) lk_9_49 nc_SS rfl (by decide)), Or.inr ⟨(2 : Fin 4), rfl, rfl, rfl⟩, by decide, by decide, ?_⟩
        refine ra_iconst rfl ?_
        exact ra_ireturn rfl rfl ⟨⟨_, (by first | omega | (unfold ra_in at *; omega)), rfl⟩, (ch_op hS)⟩
end RL
