/-! the reference: what its methods do (printed by wip/gen/ref.py) -/
section RB
theorem sp_311 {n : Nat} {f : Nat → Int32} {d : Nat} {x0 : Int} {σ : ra_V} (hx0 : ra_in x0) (hw : WF σ) (hpw : PW σ) : ra_C (g_Gs n f) g_sh 0 (d + 5) 311 [.index (179), ra_I x0] σ (fun r s => rI r ∧ Fr (179) (191) σ s ∧ s (183) = σ (183) ∧ (∀ a, a ≠ 5 → a ≠ 7 → a ≠ 10 → ra_g s 179 a = ra_g σ 179 a) ∧ WF s ∧ PW s) := by
  refine ra_enter (nn := 1) mt_311 rfl (Nat.le_of_ble_eq_true rfl) rfl (fun h => absurd h (by decide +kernel)) ?_
  have hw0 := WF_a hw
  unfold WFa at hw0
  refine ra_load rfl rfl rfl rfl ?_
  refine ra_iconst rfl ?_
  refine ra_putI rfl lk_8_51 (Nat.zero_le _) sh_179 rfl rfl ?_
  refine ra_newU (by first | omega | (unfold ra_in at *; omega)) (fun s1 hs1 hp2 hp2o => ?_)
  have hp2_99 := hp2o 99 (by decide)
  have hF3 := Fr_tr (lo := 179) (hi := 191) Fr_rf hs1 (by omega)
  have hk4 : s1 (180) = σ (180) := (hs1 (180) (by omega))
  have hk5 : s1 (183) = σ (183) := (hs1 (183) (by omega))
  have hk6 : s1 (184) = σ (184) := (hs1 (184) (by omega))
  have hg7 : ∀ a, a ≠ 5 → a ≠ 7 → a ≠ 10 → ra_g s1 179 a = ra_g σ 179 a := fun a h5 h7 h10 => ((fun a h7 h10 => hp2o a h7) a h7 h10).trans ((fun _ _ _ _ => rfl) a h5 h7 h10)
  have ho8 : ∀ a, a ≠ 7 → a ≠ 10 → ra_g s1 179 a = ra_g σ 179 a := fun a h7 h10 => ((fun a h7 h10 => hp2o a h7) a h7 h10).trans ((fun _ _ _ => rfl) a h7 h10)
  refine ra_load rfl rfl rfl rfl ?_
  refine ra_load rfl rfl rfl rfl ?_
  refine ra_load rfl rfl rfl rfl ?_
  refine ra_cQPp (sp_201 hx0) rfl (ct_201 rfl lk_8_313 (Or.inl rfl) sh_179 (Nat.le_of_ble_eq_true rfl)) (fun z10 hz10 hz10p => ?_)
  rw [wq_k hk4] at hz10p
  refine ra_ifeq rfl rfl (ra_in01 hz10) (fun h11 => ?_) (fun h11 => ?_)
  · refine ra_iconst rfl ?_
    refine ra_iconst rfl ?_
    refine ra_cT (sp_193 (Or.inl rfl) (by first | omega | (unfold ra_in at *; omega))) rfl (ct_193 rfl lk_8_303 (Or.inl rfl) sh_179 (Nat.le_of_ble_eq_true rfl)) (fun s12 hs12 => ?_)
    obtain ⟨hf13, he14⟩ := hs12
    have hF15 := Fr_tr (lo := 179) (hi := 191) hF3 hf13 (by omega)
    have hk16 : s12 (180) = σ (180) := (hf13 (180) (by omega)).trans hk4
    have hk17 : s12 (183) = σ (183) := (hf13 (183) (by omega)).trans hk5
    have hk18 : s12 (184) = σ (184) := (hf13 (184) (by omega)).trans hk6
    have hg19 : ∀ a, a ≠ 5 → a ≠ 7 → a ≠ 10 → ra_g s12 179 a = ra_g σ 179 a := fun a h5 h7 h10 => ((fun a h7 h10 => he14 a h7) a h7 h10).trans (hg7 a h5 h7 h10)
    have ho20 : ∀ a, a ≠ 7 → a ≠ 10 → ra_g s12 179 a = ra_g σ 179 a := fun a h7 h10 => ((fun a h7 h10 => he14 a h7) a h7 h10).trans (ho8 a h7 h10)
    refine ra_ifne rfl rfl (by first | omega | (unfold ra_in at *; omega)) (fun h21 => ?_) (fun h21 => ?_)
    · exact absurd h21 (by decide)
    · refine ra_load rfl rfl rfl rfl ?_
      refine ra_load rfl rfl rfl rfl ?_
      refine ra_iconst rfl ?_
      refine ra_cQP (sp_267 hx0 (by first | omega | (unfold ra_in at *; omega))) rfl (ct_267 rfl lk_8_318 (Or.inl rfl) sh_179 (Nat.le_of_ble_eq_true rfl)) (fun z23 s22 hz23 hz23p hs22 => ?_)
      rw [wq_k hk16] at hz23p
      obtain ⟨hf24, he25⟩ := hs22
      have hF26 := Fr_tr (lo := 179) (hi := 191) hF15 hf24 (by omega)
      have hk27 : s22 (180) = σ (180) := (hf24 (180) (by omega)).trans hk16
      have hk28 : s22 (183) = σ (183) := (hf24 (183) (by omega)).trans hk17
      have hk29 : s22 (184) = σ (184) := (hf24 (184) (by omega)).trans hk18
      have hg30 : ∀ a, a ≠ 5 → a ≠ 7 → a ≠ 10 → ra_g s22 179 a = ra_g σ 179 a := fun a h5 h7 h10 => ((fun a h7 h10 => he25 a h7) a h7 h10).trans (hg19 a h5 h7 h10)
      have ho31 : ∀ a, a ≠ 7 → a ≠ 10 → ra_g s22 179 a = ra_g σ 179 a := fun a h7 h10 => ((fun a h7 h10 => he25 a h7) a h7 h10).trans (ho20 a h7 h10)
      refine ra_ifeq rfl rfl (ra_in01 hz23) (fun h32 => ?_) (fun h32 => ?_)
      · refine ra_load rfl rfl rfl rfl ?_
        have hp := hz23p (by omega)
        have hst := hz10p.mpr hp
        have hq := WF_p hw hp.1 hp.2.1 hp.2.2
        refine ra_cV (sp_196 (WF_k hk27 hw) (PW_k hpw (ho31 5 (by decide) (by decide)) hk29)) rfl (ct_196 rfl lk_8_366 (Or.inl rfl) sh_179 (Nat.le_of_ble_eq_true rfl)) (fun s33 hs33 => ?_)
        obtain ⟨hf34, hc35, hc36, hc37, hc38, he39, he40⟩ := hs33
        have hF41 := Fr_tr (lo := 179) (hi := 191) hF26 hf34 (by omega)
        have hk42 : s33 (180) = σ (180) := hc35.trans hk27
        have hk43 : s33 (183) = σ (183) := hc38.trans hk28
        have hg44 : ∀ a, a ≠ 5 → a ≠ 7 → a ≠ 10 → ra_g s33 179 a = ra_g σ 179 a := fun a h5 h7 h10 => ((fun a h5 h7 h10 => he39 a h5) a h5 h7 h10).trans (hg30 a h5 h7 h10)
        refine ra_load rfl rfl rfl rfl ?_
        refine ra_load rfl rfl rfl rfl ?_
        refine ra_cIPp (sp_309 hx0 (WF_k hk42 hw) (sp_k hk42 rfl (hz23p (by omega)))) rfl (ct_309 rfl lk_8_378 (Or.inl rfl) sh_179 (Nat.le_of_ble_eq_true rfl)) (fun z46 hz46 hz46p => ?_)
        refine ra_store (L' := [_, _, _]) rfl rfl rfl (Nat.le_of_ble_eq_true rfl) rfl ?_
        refine ra_load rfl rfl rfl rfl ?_
        refine ra_load rfl rfl rfl rfl ?_
        refine ra_iconst rfl ?_
        refine ra_iconst rfl ?_
        refine ra_cV (sp_200 hz46 (by first | omega | (unfold ra_in at *; omega)) (by first | omega | (unfold ra_in at *; omega)) (by first | assumption | rfl | omega)) rfl (ct_200 rfl lk_8_78 (Or.inl rfl) sh_179 (Nat.le_of_ble_eq_true rfl)) (fun s47 hs47 => ?_)
        obtain ⟨hf48, he49, he50⟩ := hs47
        have hF51 := Fr_tr (lo := 179) (hi := 191) hF41 hf48 (by omega)
        have hk52 : s47 (183) = σ (183) := (hf48 (183) (by omega)).trans hk43
        have hg53 : ∀ a, a ≠ 5 → a ≠ 7 → a ≠ 10 → ra_g s47 179 a = ra_g σ 179 a := fun a h5 h7 h10 => (ra_gk (hf48 179 (by omega))).trans (hg44 a h5 h7 h10)
        refine ra_load rfl rfl rfl rfl ?_
        refine ra_load rfl rfl rfl rfl ?_
        refine ra_load rfl rfl rfl rfl ?_
        refine ra_load rfl rfl rfl rfl ?_
        refine ra_iconst rfl ?_
        refine ra_cTp (sp_199 hx0 (by first | omega | (unfold ra_in at *; omega)) (by first | assumption | rfl | omega)) rfl (ct_199 rfl lk_8_67 (Or.inl rfl) sh_179 (Nat.le_of_ble_eq_true rfl)) ?_
        have hr55 : ra_in (wq s47 x0 (2)) := (ra_in_wq _ _ _)
        refine ra_load rfl rfl rfl rfl ?_
        refine ra_load rfl rfl rfl rfl ?_
        refine ra_iconst rfl ?_
        refine ra_cTp (sp_199 hz46 (by first | omega | (unfold ra_in at *; omega)) (by first | assumption | rfl | omega)) rfl (ct_199 rfl lk_8_67 (Or.inl rfl) sh_179 (Nat.le_of_ble_eq_true rfl)) ?_
        have hr57 : ra_in (wq s47 z46 (2)) := (ra_in_wq _ _ _)
        refine ra_iadd rfl ?_
        refine ra_cV (sp_303 hx0 (by first | omega | (unfold ra_in at *; omega)) (by first | assumption | rfl | omega) (by first | assumption | rfl | omega)) rfl (ct_303 rfl lk_8_375 (Or.inl rfl) sh_179 (Nat.le_of_ble_eq_true rfl)) (fun s58 hs58 => ?_)
        obtain ⟨hf59, he60⟩ := hs58
        have hF61 := Fr_tr (lo := 179) (hi := 191) hF51 hf59 (by omega)
        have hk62 : s58 (183) = σ (183) := (hf59 (183) (by omega)).trans hk52
        have hg63 : ∀ a, a ≠ 5 → a ≠ 7 → a ≠ 10 → ra_g s58 179 a = ra_g σ 179 a := fun a h5 h7 h10 => (ra_gk (hf59 179 (by omega))).trans (hg53 a h5 h7 h10)
        refine ra_load rfl rfl rfl rfl ?_
        exact ra_ireturn rfl rfl ⟨⟨_, hz46, rfl⟩, ⟨hF61, hk62, hg63, (by exfalso; omega), (PW_k (PW_k he40 (ra_gk (hf48 179 (by omega))) (hf48 184 (by omega))) (ra_gk (hf59 179 (by omega))) (hf59 184 (by omega)))⟩⟩
      · refine ra_iconst rfl ?_
        exact ra_ireturn rfl rfl ⟨⟨_, (by first | omega | (unfold ra_in at *; omega)), rfl⟩, ⟨hF26, hk28, hg30, (WF_k hk27 hw), (PW_k hpw (ho31 5 (by decide) (by decide)) hk29)⟩⟩
  · refine ra_load rfl rfl rfl rfl ?_
    refine ra_load rfl rfl rfl rfl ?_
    refine ra_cQPp (sp_310 hx0 (WF_k hk4 hw) (sp_k hk4 rfl (hz10p.mp (by omega)))) rfl (ct_310 rfl lk_8_381 (Or.inl rfl) sh_179 (Nat.le_of_ble_eq_true rfl)) (fun z65 hz65 hz65p => ?_)
    refine ra_ifne rfl rfl (ra_in01 hz65) (fun h66 => ?_) (fun h66 => ?_)
    · refine ra_iconst rfl ?_
      refine ra_iconst rfl ?_
      refine ra_cT (sp_193 (Or.inl rfl) (by first | omega | (unfold ra_in at *; omega))) rfl (ct_193 rfl lk_8_303 (Or.inl rfl) sh_179 (Nat.le_of_ble_eq_true rfl)) (fun s67 hs67 => ?_)
      obtain ⟨hf68, he69⟩ := hs67
      have hF70 := Fr_tr (lo := 179) (hi := 191) hF3 hf68 (by omega)
      have hk71 : s67 (180) = σ (180) := (hf68 (180) (by omega)).trans hk4
      have hk72 : s67 (183) = σ (183) := (hf68 (183) (by omega)).trans hk5
      have hk73 : s67 (184) = σ (184) := (hf68 (184) (by omega)).trans hk6
      have hg74 : ∀ a, a ≠ 5 → a ≠ 7 → a ≠ 10 → ra_g s67 179 a = ra_g σ 179 a := fun a h5 h7 h10 => ((fun a h7 h10 => he69 a h7) a h7 h10).trans (hg7 a h5 h7 h10)
      have ho75 : ∀ a, a ≠ 7 → a ≠ 10 → ra_g s67 179 a = ra_g σ 179 a := fun a h7 h10 => ((fun a h7 h10 => he69 a h7) a h7 h10).trans (ho8 a h7 h10)
      refine ra_ifne rfl rfl (by first | omega | (unfold ra_in at *; omega)) (fun h76 => ?_) (fun h76 => ?_)
      · exact absurd h76 (by decide)
      · refine ra_load rfl rfl rfl rfl ?_
        refine ra_load rfl rfl rfl rfl ?_
        refine ra_iconst rfl ?_
        refine ra_cQP (sp_267 hx0 (by first | omega | (unfold ra_in at *; omega))) rfl (ct_267 rfl lk_8_318 (Or.inl rfl) sh_179 (Nat.le_of_ble_eq_true rfl)) (fun z78 s77 hz78 hz78p hs77 => ?_)
        rw [wq_k hk71] at hz78p
        obtain ⟨hf79, he80⟩ := hs77
        have hF81 := Fr_tr (lo := 179) (hi := 191) hF70 hf79 (by omega)
        have hk82 : s77 (180) = σ (180) := (hf79 (180) (by omega)).trans hk71
        have hk83 : s77 (183) = σ (183) := (hf79 (183) (by omega)).trans hk72
        have hk84 : s77 (184) = σ (184) := (hf79 (184) (by omega)).trans hk73
        have hg85 : ∀ a, a ≠ 5 → a ≠ 7 → a ≠ 10 → ra_g s77 179 a = ra_g σ 179 a := fun a h5 h7 h10 => ((fun a h7 h10 => he80 a h7) a h7 h10).trans (hg74 a h5 h7 h10)
        have ho86 : ∀ a, a ≠ 7 → a ≠ 10 → ra_g s77 179 a = ra_g σ 179 a := fun a h7 h10 => ((fun a h7 h10 => he80 a h7) a h7 h10).trans (ho75 a h7 h10)
        refine ra_ifeq rfl rfl (ra_in01 hz78) (fun h87 => ?_) (fun h87 => ?_)
        · refine ra_load rfl rfl rfl rfl ?_
          have hp := hz78p (by omega)
          have hst := hz10p.mpr hp
          have hq := WF_p hw hp.1 hp.2.1 hp.2.2
          have hc := cj_k hk4 (hz65p (by omega))
          refine ra_cV (sp_196 (WF_k hk82 hw) (PW_k hpw (ho86 5 (by decide) (by decide)) hk84)) rfl (ct_196 rfl lk_8_366 (Or.inl rfl) sh_179 (Nat.le_of_ble_eq_true rfl)) (fun s88 hs88 => ?_)
          obtain ⟨hf89, hc90, hc91, hc92, hc93, he94, he95⟩ := hs88
          have hF96 := Fr_tr (lo := 179) (hi := 191) hF81 hf89 (by omega)
          have hk97 : s88 (180) = σ (180) := hc90.trans hk82
          have hk98 : s88 (183) = σ (183) := hc93.trans hk83
          have hg99 : ∀ a, a ≠ 5 → a ≠ 7 → a ≠ 10 → ra_g s88 179 a = ra_g σ 179 a := fun a h5 h7 h10 => ((fun a h5 h7 h10 => he94 a h5) a h5 h7 h10).trans (hg85 a h5 h7 h10)
          refine ra_load rfl rfl rfl rfl ?_
          refine ra_load rfl rfl rfl rfl ?_
          refine ra_cIPp (sp_309 hx0 (WF_k hk97 hw) (sp_k hk97 rfl (hz78p (by omega)))) rfl (ct_309 rfl lk_8_378 (Or.inl rfl) sh_179 (Nat.le_of_ble_eq_true rfl)) (fun z101 hz101 hz101p => ?_)
          have hj := nb_j (WF_k hk97 hw) ⟨hp.1, hp.2.1, (wq_k hk97).trans hp.2.2⟩ (cj_k hk97.symm hc) hz101p
          have hp2 := (⟨hp.1, hp.2.1, (wq_k hk97).trans hp.2.2⟩ : 0 ≤ x0 ∧ x0 < 8 ∧ wq s88 x0 0 = 1)
          refine ra_store (L' := [_, _, _]) rfl rfl rfl (Nat.le_of_ble_eq_true rfl) rfl ?_
          refine ra_load rfl rfl rfl rfl ?_
          refine ra_load rfl rfl rfl rfl ?_
          refine ra_iconst rfl ?_
          refine ra_iconst rfl ?_
          refine ra_cV (sp_200 hz101 (by first | omega | (unfold ra_in at *; omega)) (by first | omega | (unfold ra_in at *; omega)) (by first | assumption | rfl | omega)) rfl (ct_200 rfl lk_8_78 (Or.inl rfl) sh_179 (Nat.le_of_ble_eq_true rfl)) (fun s102 hs102 => ?_)
          obtain ⟨hf103, he104, he105⟩ := hs102
          have hF106 := Fr_tr (lo := 179) (hi := 191) hF96 hf103 (by omega)
          have hk107 : s102 (183) = σ (183) := (hf103 (183) (by omega)).trans hk98
          have hg108 : ∀ a, a ≠ 5 → a ≠ 7 → a ≠ 10 → ra_g s102 179 a = ra_g σ 179 a := fun a h5 h7 h10 => (ra_gk (hf103 179 (by omega))).trans (hg99 a h5 h7 h10)
          have hb := jn_b (WF_k hk97 hw) hp2 hj he105
          refine ra_load rfl rfl rfl rfl ?_
          refine ra_load rfl rfl rfl rfl ?_
          refine ra_load rfl rfl rfl rfl ?_
          refine ra_load rfl rfl rfl rfl ?_
          refine ra_iconst rfl ?_
          refine ra_cTp (sp_199 hx0 (by first | omega | (unfold ra_in at *; omega)) (by first | assumption | rfl | omega)) rfl (ct_199 rfl lk_8_67 (Or.inl rfl) sh_179 (Nat.le_of_ble_eq_true rfl)) ?_
          have hr110 : ra_in (wq s102 x0 (2)) := (ra_in_wq _ _ _)
          refine ra_load rfl rfl rfl rfl ?_
          refine ra_load rfl rfl rfl rfl ?_
          refine ra_iconst rfl ?_
          refine ra_cTp (sp_199 hz101 (by first | omega | (unfold ra_in at *; omega)) (by first | assumption | rfl | omega)) rfl (ct_199 rfl lk_8_67 (Or.inl rfl) sh_179 (Nat.le_of_ble_eq_true rfl)) ?_
          have hr112 : ra_in (wq s102 z101 (2)) := (ra_in_wq _ _ _)
          refine ra_iadd rfl ?_
          refine ra_cV (sp_303 hx0 (by first | omega | (unfold ra_in at *; omega)) (by first | assumption | rfl | omega) (by first | assumption | rfl | omega)) rfl (ct_303 rfl lk_8_375 (Or.inl rfl) sh_179 (Nat.le_of_ble_eq_true rfl)) (fun s113 hs113 => ?_)
          obtain ⟨hf114, he115⟩ := hs113
          have hF116 := Fr_tr (lo := 179) (hi := 191) hF106 hf114 (by omega)
          have hk117 : s113 (183) = σ (183) := (hf114 (183) (by omega)).trans hk107
          have hg118 : ∀ a, a ≠ 5 → a ≠ 7 → a ≠ 10 → ra_g s113 179 a = ra_g σ 179 a := fun a h5 h7 h10 => (ra_gk (hf114 179 (by omega))).trans (hg108 a h5 h7 h10)
          refine ra_load rfl rfl rfl rfl ?_
          exact ra_ireturn rfl rfl ⟨⟨_, hz101, rfl⟩, ⟨hF116, hk117, hg118, (jn_w (WF_k hk97 hw) hp2 hj he104 he105 he115), (PW_k (PW_k he95 (ra_gk (hf103 179 (by omega))) (hf103 184 (by omega))) (ra_gk (hf114 179 (by omega))) (hf114 184 (by omega)))⟩⟩
        · refine ra_iconst rfl ?_
          exact ra_ireturn rfl rfl ⟨⟨_, (by first | omega | (unfold ra_in at *; omega)), rfl⟩, ⟨hF81, hk83, hg85, (WF_k hk82 hw), (PW_k hpw (ho86 5 (by decide) (by decide)) hk84)⟩⟩
    · refine ra_iconst rfl ?_
      refine ra_goto rfl rfl ?_
      refine ra_iconst rfl ?_
      refine ra_cT (sp_193 (Or.inr rfl) (by first | omega | (unfold ra_in at *; omega))) rfl (ct_193 rfl lk_8_303 (Or.inl rfl) sh_179 (Nat.le_of_ble_eq_true rfl)) (fun s119 hs119 => ?_)
      obtain ⟨hf120, he121⟩ := hs119
      have hF122 := Fr_tr (lo := 179) (hi := 191) hF3 hf120 (by omega)
      have hk123 : s119 (180) = σ (180) := (hf120 (180) (by omega)).trans hk4
      have hk124 : s119 (183) = σ (183) := (hf120 (183) (by omega)).trans hk5
      have hk125 : s119 (184) = σ (184) := (hf120 (184) (by omega)).trans hk6
      have hg126 : ∀ a, a ≠ 5 → a ≠ 7 → a ≠ 10 → ra_g s119 179 a = ra_g σ 179 a := fun a h5 h7 h10 => ((fun a h7 h10 => he121 a h7) a h7 h10).trans (hg7 a h5 h7 h10)
      have ho127 : ∀ a, a ≠ 7 → a ≠ 10 → ra_g s119 179 a = ra_g σ 179 a := fun a h7 h10 => ((fun a h7 h10 => he121 a h7) a h7 h10).trans (ho8 a h7 h10)
      refine ra_ifne rfl rfl (by first | omega | (unfold ra_in at *; omega)) (fun h128 => ?_) (fun h128 => ?_)
      · refine ra_iconst rfl ?_
        exact ra_ireturn rfl rfl ⟨⟨_, (by first | omega | (unfold ra_in at *; omega)), rfl⟩, ⟨hF122, hk124, hg126, (WF_k hk123 hw), (PW_k hpw (ho127 5 (by decide) (by decide)) hk125)⟩⟩
      · exact absurd h128 (by decide)
end RB
