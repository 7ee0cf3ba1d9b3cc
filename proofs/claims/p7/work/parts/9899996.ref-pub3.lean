/-! T5: what the reference changes (printed by wip/gen/r6.py) -/
section
theorem s5_309 {n : Nat} {f : Nat → Int32} {d : Nat} {x0 : Int} {x1 : Int} {σ : ra_V} (hx0 : ra_in x0) (hx1 : ra_in x1) (hw : WF σ) (hpw : PW σ) : ra_C (g_Gs n f) g_sh 0 (d + 5) 309 [.index (179), ra_I x0, ra_I x1] σ (fun r9 s => (∃ z, ra_in z ∧ (x5RO (x5dcSp σ x0 x1) (fun z => z = x5nfr (x5up σ (24 + 8 * x0 + 2).toNat x1)) (x5mkV (x5up σ (24 + 8 * x0 + 2).toNat x1) (x5nfr (x5up σ (24 + 8 * x0 + 2).toNat x1)) (wq σ x0 1 + x1) (wq σ x0 2 - x1) (wq σ x0 4) 1) σ s z) ∧ r9 = .inl (some (ra_I z))) ∧ Fr (179) (191) σ s ∧ s (183) = σ (183) ∧ s (187) = σ (187) ∧ (∀ a, a ≠ 5 → a ≠ 7 → a ≠ 10 → ra_g s 179 a = ra_g σ 179 a) ∧ WF s ∧ PW s) := by
  refine ra_enter (nn := 2) mt_309 rfl (Nat.le_of_ble_eq_true rfl) rfl (fun h => absurd h (by decide +kernel)) ?_
  have hw0 := WF_a hw
  unfold WFa at hw0
  refine ra_load rfl rfl rfl rfl ?_
  refine ra_iconst rfl ?_
  refine ra_putI rfl lk_8_51 (Nat.zero_le _) sh_179 rfl rfl ?_
  refine ra_newU (by first | omega | (unfold ra_in at *; omega)) (fun s1 hs1 hp2 hp2o => ?_)
  have hp2_99 := hp2o 99 (by decide)
  have hF3 := Fr_tr (lo := 179) (hi := 191) Fr_rf hs1 (by omega)
  have hk4 : s1 (180) = σ (180) := (hs1 (180) (by omega))
  have hk5 : s1 (183) = σ (183) := (hs1 (183) (by omega))
  have hk6 : s1 (184) = σ (184) := (hs1 (184) (by omega))
  have hk7 : s1 (187) = σ (187) := (hs1 (187) (by omega))
  have hg8 : ∀ a, a ≠ 5 → a ≠ 7 → a ≠ 10 → ra_g s1 179 a = ra_g σ 179 a := fun a h5 h7 h10 => ((fun a h7 h10 => hp2o a h7) a h7 h10).trans ((fun _ _ _ _ => rfl) a h5 h7 h10)
  have ho9 : ∀ a, a ≠ 7 → a ≠ 10 → ra_g s1 179 a = ra_g σ 179 a := fun a h7 h10 => ((fun a h7 h10 => hp2o a h7) a h7 h10).trans ((fun _ _ _ => rfl) a h7 h10)
  refine ra_load rfl rfl rfl rfl ?_
  refine ra_load rfl rfl rfl rfl ?_
  refine ra_load rfl rfl rfl rfl ?_
  refine ra_cQPp (sp_202 hx0) rfl (ct_202 rfl lk_8_313 (Or.inl rfl) sh_179 (Nat.le_of_ble_eq_true rfl)) (fun z11 hz11 hz11p => ?_)
  rw [wq_k hk4] at hz11p
  refine ra_ifeq rfl rfl (ra_in01 hz11) (fun h12 => ?_) (fun h12 => ?_)
  · refine ra_iconst rfl ?_
    refine ra_iconst rfl ?_
    refine ra_cT (s5_194 (Or.inl rfl) (by first | omega | (unfold ra_in at *; omega))) rfl (ct_194 rfl lk_8_303 (Or.inl rfl) sh_179 (Nat.le_of_ble_eq_true rfl)) (fun s13 hs13 => ?_)
    obtain ⟨hf14, he15, he16⟩ := hs13
    have hF17 := Fr_tr (lo := 179) (hi := 191) hF3 hf14 (by omega)
    have hk18 : s13 (180) = σ (180) := (hf14 (180) (by omega)).trans hk4
    have hk19 : s13 (183) = σ (183) := (hf14 (183) (by omega)).trans hk5
    have hk20 : s13 (184) = σ (184) := (hf14 (184) (by omega)).trans hk6
    have hk21 : s13 (187) = σ (187) := (hf14 (187) (by omega)).trans hk7
    have hg22 : ∀ a, a ≠ 5 → a ≠ 7 → a ≠ 10 → ra_g s13 179 a = ra_g σ 179 a := fun a h5 h7 h10 => ((fun a h7 h10 => he15 a h7) a h7 h10).trans (hg8 a h5 h7 h10)
    have ho23 : ∀ a, a ≠ 7 → a ≠ 10 → ra_g s13 179 a = ra_g σ 179 a := fun a h7 h10 => ((fun a h7 h10 => he15 a h7) a h7 h10).trans (ho9 a h7 h10)
    refine ra_ifeq rfl rfl (by first | omega | (unfold ra_in at *; omega)) (fun h24 => ?_) (fun h24 => ?_)
    · refine ra_load rfl rfl rfl rfl ?_
      refine ra_load rfl rfl rfl rfl ?_
      refine ra_cQPp (sp_202 hx0) rfl (ct_202 rfl lk_8_313 (Or.inl rfl) sh_179 (Nat.le_of_ble_eq_true rfl)) (fun z26 hz26 hz26p => ?_)
      rw [wq_k hk18] at hz26p
      refine ra_ifeq rfl rfl (ra_in01 hz26) (fun h27 => ?_) (fun h27 => ?_)
      · refine ra_iconst rfl ?_
        refine ra_store (L' := [_, _, _, _, _]) rfl rfl rfl (Nat.le_of_ble_eq_true rfl) rfl ?_
        refine ra_load rfl rfl rfl rfl ?_
        refine ra_load rfl rfl rfl rfl ?_
        refine ra_iconst rfl ?_
        refine ra_cT (s5_194 (Or.inl rfl) (by first | omega | (unfold ra_in at *; omega))) rfl (ct_194 rfl lk_8_303 (Or.inl rfl) sh_179 (Nat.le_of_ble_eq_true rfl)) (fun s28 hs28 => ?_)
        obtain ⟨hf29, he30, he31⟩ := hs28
        have hF32 := Fr_tr (lo := 179) (hi := 191) hF17 hf29 (by omega)
        have hk33 : s28 (180) = σ (180) := (hf29 (180) (by omega)).trans hk18
        have hk34 : s28 (183) = σ (183) := (hf29 (183) (by omega)).trans hk19
        have hk35 : s28 (184) = σ (184) := (hf29 (184) (by omega)).trans hk20
        have hk36 : s28 (187) = σ (187) := (hf29 (187) (by omega)).trans hk21
        have hg37 : ∀ a, a ≠ 5 → a ≠ 7 → a ≠ 10 → ra_g s28 179 a = ra_g σ 179 a := fun a h5 h7 h10 => ((fun a h7 h10 => he30 a h7) a h7 h10).trans (hg22 a h5 h7 h10)
        have ho38 : ∀ a, a ≠ 7 → a ≠ 10 → ra_g s28 179 a = ra_g σ 179 a := fun a h7 h10 => ((fun a h7 h10 => he30 a h7) a h7 h10).trans (ho23 a h7 h10)
        refine ra_ifne rfl rfl (by first | omega | (unfold ra_in at *; omega)) (fun h39 => ?_) (fun h39 => ?_)
        · exact absurd h39 (by decide)
        · refine ra_load rfl rfl rfl rfl ?_
          refine ra_load rfl rfl rfl rfl ?_
          refine ra_iconst rfl ?_
          refine ra_cQPs (s5_268 hx0 (by first | omega | (unfold ra_in at *; omega))) rfl (ct_268 rfl lk_8_318 (Or.inl rfl) sh_179 (Nat.le_of_ble_eq_true rfl)) (fun z41 s40 hz41 hz41p hs40 => ?_)
          rw [wq_k hk33] at hz41p
          have hz41o := hz41p.1
          have hz41q := hz41p.2
          clear hz41p
          obtain ⟨hf42, he43⟩ := hs40
          have hF44 := Fr_tr (lo := 179) (hi := 191) hF32 hf42 (by omega)
          have hk45 : s40 (180) = σ (180) := (hf42 (180) (by omega)).trans hk33
          have hk46 : s40 (183) = σ (183) := (hf42 (183) (by omega)).trans hk34
          have hk47 : s40 (184) = σ (184) := (hf42 (184) (by omega)).trans hk35
          have hk48 : s40 (187) = σ (187) := (hf42 (187) (by omega)).trans hk36
          have hg49 : ∀ a, a ≠ 5 → a ≠ 7 → a ≠ 10 → ra_g s40 179 a = ra_g σ 179 a := fun a h5 h7 h10 => ((fun a h7 h10 => he43 a h7) a h7 h10).trans (hg37 a h5 h7 h10)
          have ho50 : ∀ a, a ≠ 7 → a ≠ 10 → ra_g s40 179 a = ra_g σ 179 a := fun a h7 h10 => ((fun a h7 h10 => he43 a h7) a h7 h10).trans (ho38 a h7 h10)
          refine ra_ifeq rfl rfl (ra_in01 hz41) (fun h51 => ?_) (fun h51 => ?_)
          · refine ra_load rfl rfl rfl rfl ?_
            have hp := hz41o (by omega)
            have hst := hz26p.mpr hp
            have hq := WF_p hw hp.1 hp.2.1 hp.2.2
            have hb0 : s40 180 = σ 180 := hk45
            have hb4 : s40 184 = σ 184 := hk47
            have hb5 : ra_g s40 179 5 = ra_g σ 179 5 := ho50 5 (by decide) (by decide)
            refine ra_cV (s5_197 (WF_k hk45 hw) (PW_k hpw (ho50 5 (by decide) (by decide)) hk47)) rfl (ct_197 rfl lk_8_366 (Or.inl rfl) sh_179 (Nat.le_of_ble_eq_true rfl)) (fun s52 hs52 => ?_)
            obtain ⟨hf53, hc54, hc55, hc56, hc57, he58, he59, he60⟩ := hs52
            have hF61 := Fr_tr (lo := 179) (hi := 191) hF44 hf53 (by omega)
            have hk62 : s52 (180) = σ (180) := hc54.trans hk45
            have hk63 : s52 (183) = σ (183) := hc57.trans hk46
            have hk64 : s52 (187) = σ (187) := (hf53 (187) (by omega)).trans hk48
            have hg65 : ∀ a, a ≠ 5 → a ≠ 7 → a ≠ 10 → ra_g s52 179 a = ra_g σ 179 a := fun a h5 h7 h10 => ((fun a h5 h7 h10 => he58 a h5) a h5 h7 h10).trans (hg49 a h5 h7 h10)
            refine ra_load rfl rfl rfl rfl ?_
            refine ra_load rfl rfl rfl rfl ?_
            refine ra_iconst rfl ?_
            refine ra_cTp (sp_200 hx0 (by first | omega | (unfold ra_in at *; omega)) (by first | assumption | rfl | omega)) rfl (ct_200 rfl lk_8_67 (Or.inl rfl) sh_179 (Nat.le_of_ble_eq_true rfl)) ?_
            rw [wq_k hk62]
            have hr67 : ra_in (wq σ x0 (2)) := (ra_in_wq _ _ _)
            refine ra_load rfl rfl rfl rfl ?_
            refine ra_isub rfl ?_
            refine ra_store (L' := [_, _, _, _, _]) rfl rfl rfl (Nat.le_of_ble_eq_true rfl) rfl ?_
            refine ra_load rfl rfl rfl rfl ?_
            refine ra_load rfl rfl rfl rfl ?_
            refine ra_iconst rfl ?_
            refine ra_load rfl rfl rfl rfl ?_
            refine ra_cV (sp_201 hx0 (by first | omega | (unfold ra_in at *; omega)) hx1 (by first | assumption | rfl | omega)) rfl (ct_201 rfl lk_8_78 (Or.inl rfl) sh_179 (Nat.le_of_ble_eq_true rfl)) (fun s68 hs68 => ?_)
            obtain ⟨hf69, he70, he71⟩ := hs68
            have hF72 := Fr_tr (lo := 179) (hi := 191) hF61 hf69 (by omega)
            have hk73 : s68 (183) = σ (183) := (hf69 (183) (by omega)).trans hk63
            have hk74 : s68 (187) = σ (187) := (hf69 (187) (by omega)).trans hk64
            have hg75 : ∀ a, a ≠ 5 → a ≠ 7 → a ≠ 10 → ra_g s68 179 a = ra_g σ 179 a := fun a h5 h7 h10 => (ra_gk (hf69 179 (by omega))).trans (hg65 a h5 h7 h10)
            refine ra_load rfl rfl rfl rfl ?_
            refine ra_load rfl rfl rfl rfl ?_
            refine ra_load rfl rfl rfl rfl ?_
            refine ra_iconst rfl ?_
            refine ra_cTp (sp_200 hx0 (by first | omega | (unfold ra_in at *; omega)) (by first | assumption | rfl | omega)) rfl (ct_200 rfl lk_8_67 (Or.inl rfl) sh_179 (Nat.le_of_ble_eq_true rfl)) ?_
            have hr77 : ra_in (wq s68 x0 (1)) := (ra_in_wq _ _ _)
            refine ra_load rfl rfl rfl rfl ?_
            refine ra_iadd rfl ?_
            refine ra_load rfl rfl rfl rfl ?_
            refine ra_load rfl rfl rfl rfl ?_
            refine ra_load rfl rfl rfl rfl ?_
            refine ra_iconst rfl ?_
            refine ra_cTp (sp_200 hx0 (by first | omega | (unfold ra_in at *; omega)) (by first | assumption | rfl | omega)) rfl (ct_200 rfl lk_8_67 (Or.inl rfl) sh_179 (Nat.le_of_ble_eq_true rfl)) ?_
            have hr79 : ra_in (wq s68 x0 (4)) := (ra_in_wq _ _ _)
            refine ra_iconst rfl ?_
            refine ra_cIPs (s5_210 (by first | omega | (unfold ra_in at *; omega)) (by first | omega | (unfold ra_in at *; omega)) hr79 (by first | omega | (unfold ra_in at *; omega)) (by exfalso; omega) (by omega)) rfl (ct_210 rfl lk_8_250 (Or.inl rfl) sh_179 (Nat.le_of_ble_eq_true rfl)) (fun z81 s80 hz81 hz81p hs80 => ?_)
            have hz81o := hz81p.1
            have hz81q := hz81p.2
            clear hz81p
            have hF82 := Fr_tr (lo := 179) (hi := 191) hF72 hs80 (by omega)
            have hk83 : s80 (183) = σ (183) := (hs80 (183) (by omega)).trans hk73
            have hk84 : s80 (187) = σ (187) := (hs80 (187) (by omega)).trans hk74
            have hg85 : ∀ a, a ≠ 5 → a ≠ 7 → a ≠ 10 → ra_g s80 179 a = ra_g σ 179 a := fun a h5 h7 h10 => (ra_gk (hs80 179 (by omega))).trans (hg75 a h5 h7 h10)
            exact ra_ireturn rfl rfl ⟨⟨_, hz81, (by exfalso; omega), rfl⟩, ⟨hF82, hk83, hk84, hg85, (by exfalso; omega), (PW_k (PW_k he59 (ra_gk (hf69 179 (by omega))) (hf69 184 (by omega))) (ra_gk (hs80 179 (by omega))) (hs80 184 (by omega)))⟩⟩
          · refine ra_iconst rfl ?_
            exact ra_ireturn rfl rfl ⟨⟨_, (by first | omega | (unfold ra_in at *; omega)), (x5roF (k := 3) (x5cif_y (fun q => hz41q.1 (by omega) q)) (by decide) (hz41q.2.1 (by omega)) hk45 (ho50 5 (by decide) (by decide)) hk47), rfl⟩, ⟨hF44, hk46, hk48, hg49, (WF_k hk45 hw), (PW_k hpw (ho50 5 (by decide) (by decide)) hk47)⟩⟩
      · have hp := hz26p.mp (by omega)
        have hq := WF_p hw hp.1 hp.2.1 hp.2.2
        refine ra_load rfl rfl rfl rfl ?_
        refine ra_load rfl rfl rfl rfl ?_
        refine ra_cQPp (s5_206 hx0 (by first | assumption | rfl | omega)) rfl (ct_206 rfl lk_8_355 (Or.inl rfl) sh_179 (Nat.le_of_ble_eq_true rfl)) (fun z87 hz87 hz87p => ?_)
        have hz87o := hz87p.1
        have hz87q := hz87p.2
        clear hz87p
        refine ra_ifne rfl rfl (ra_in01 hz87) (fun h88 => ?_) (fun h88 => ?_)
        · refine ra_iconst rfl ?_
          refine ra_goto rfl rfl ?_
          refine ra_store (L' := [_, _, _, _, _]) rfl rfl rfl (Nat.le_of_ble_eq_true rfl) rfl ?_
          refine ra_load rfl rfl rfl rfl ?_
          refine ra_load rfl rfl rfl rfl ?_
          refine ra_iconst rfl ?_
          refine ra_cT (s5_194 (Or.inr rfl) (by first | omega | (unfold ra_in at *; omega))) rfl (ct_194 rfl lk_8_303 (Or.inl rfl) sh_179 (Nat.le_of_ble_eq_true rfl)) (fun s89 hs89 => ?_)
          obtain ⟨hf90, he91, he92⟩ := hs89
          have hF93 := Fr_tr (lo := 179) (hi := 191) hF17 hf90 (by omega)
          have hk94 : s89 (180) = σ (180) := (hf90 (180) (by omega)).trans hk18
          have hk95 : s89 (183) = σ (183) := (hf90 (183) (by omega)).trans hk19
          have hk96 : s89 (184) = σ (184) := (hf90 (184) (by omega)).trans hk20
          have hk97 : s89 (187) = σ (187) := (hf90 (187) (by omega)).trans hk21
          have hg98 : ∀ a, a ≠ 5 → a ≠ 7 → a ≠ 10 → ra_g s89 179 a = ra_g σ 179 a := fun a h5 h7 h10 => ((fun a h7 h10 => he91 a h7) a h7 h10).trans (hg22 a h5 h7 h10)
          have ho99 : ∀ a, a ≠ 7 → a ≠ 10 → ra_g s89 179 a = ra_g σ 179 a := fun a h7 h10 => ((fun a h7 h10 => he91 a h7) a h7 h10).trans (ho23 a h7 h10)
          refine ra_ifne rfl rfl (by first | omega | (unfold ra_in at *; omega)) (fun h100 => ?_) (fun h100 => ?_)
          · refine ra_iconst rfl ?_
            exact ra_ireturn rfl rfl ⟨⟨_, (by first | omega | (unfold ra_in at *; omega)), (x5roF (k := 2) (by first | exact ((x5cif_n (fun q => q (show x5EX σ x0 from by exact hz26p.mp (by omega)))).trans ((x5cif_n (fun q => q (by omega))).trans (x5cif_y (by have q9 := hz87q (by omega); rw [x5fx_k hk18] at q9; exact q9)))) | exact ((x5cif_n (fun q => q (show x5EX σ x0 from by exact hz26p.mp (by omega)))).trans ((x5cif_n (fun q => q (by omega))).trans ((x5cif_n (fun q9 => by have q8 := hz87o (by omega); rw [wq_k hk18, ra_gk hk18] at q8; exact Or.elim q9 q8.1 q8.2)).trans (x5cif_y (by rw [← x5em_t (by omega)]; omega)))))) (by decide) (he92.1 rfl) hk94 (ho99 5 (by decide) (by decide)) hk96), rfl⟩, ⟨hF93, hk95, hk97, hg98, (WF_k hk94 hw), (PW_k hpw (ho99 5 (by decide) (by decide)) hk96)⟩⟩
          · exact absurd h100 (by decide)
        · refine ra_load rfl rfl rfl rfl ?_
          refine ra_load rfl rfl rfl rfl ?_
          refine ra_iconst rfl ?_
          refine ra_cTp (sp_200 hx0 (by first | omega | (unfold ra_in at *; omega)) (by first | assumption | rfl | omega)) rfl (ct_200 rfl lk_8_67 (Or.inl rfl) sh_179 (Nat.le_of_ble_eq_true rfl)) ?_
          rw [wq_k hk18]
          have hr102 : ra_in (wq σ x0 (1)) := (ra_in_wq _ _ _)
          refine ra_load rfl rfl rfl rfl ?_
          refine ra_iadd rfl ?_
          refine ra_load rfl rfl rfl rfl ?_
          refine ra_getR rfl lk_8_7 (Nat.zero_le _) sh_179 rfl ?_
          refine ra_iconst rfl ?_
          refine ra_ialoadJ (j := 3) rfl sh_180 rfl (by decide) rfl (by decide) ?_
          rw [ra_gk hk18]
          have hr103 : ra_in (ra_g σ (180) 3) := (ra_in_g _ _ _)
          refine ra_irem rfl (by first | omega | (unfold ra_in at *; omega)) hr103 (by omega) ?_
          refine ra_ifne rfl rfl (ra_in_tmod (by first | omega | (unfold ra_in at *; omega)) (by omega)) (fun h104 => ?_) (fun h104 => ?_)
          · refine ra_iconst rfl ?_
            refine ra_goto rfl rfl ?_
            refine ra_store (L' := [_, _, _, _, _]) rfl rfl rfl (Nat.le_of_ble_eq_true rfl) rfl ?_
            refine ra_load rfl rfl rfl rfl ?_
            refine ra_load rfl rfl rfl rfl ?_
            refine ra_iconst rfl ?_
            refine ra_cT (s5_194 (Or.inr rfl) (by first | omega | (unfold ra_in at *; omega))) rfl (ct_194 rfl lk_8_303 (Or.inl rfl) sh_179 (Nat.le_of_ble_eq_true rfl)) (fun s105 hs105 => ?_)
            obtain ⟨hf106, he107, he108⟩ := hs105
            have hF109 := Fr_tr (lo := 179) (hi := 191) hF17 hf106 (by omega)
            have hk110 : s105 (180) = σ (180) := (hf106 (180) (by omega)).trans hk18
            have hk111 : s105 (183) = σ (183) := (hf106 (183) (by omega)).trans hk19
            have hk112 : s105 (184) = σ (184) := (hf106 (184) (by omega)).trans hk20
            have hk113 : s105 (187) = σ (187) := (hf106 (187) (by omega)).trans hk21
            have hg114 : ∀ a, a ≠ 5 → a ≠ 7 → a ≠ 10 → ra_g s105 179 a = ra_g σ 179 a := fun a h5 h7 h10 => ((fun a h7 h10 => he107 a h7) a h7 h10).trans (hg22 a h5 h7 h10)
            have ho115 : ∀ a, a ≠ 7 → a ≠ 10 → ra_g s105 179 a = ra_g σ 179 a := fun a h7 h10 => ((fun a h7 h10 => he107 a h7) a h7 h10).trans (ho23 a h7 h10)
            refine ra_ifne rfl rfl (by first | omega | (unfold ra_in at *; omega)) (fun h116 => ?_) (fun h116 => ?_)
            · refine ra_iconst rfl ?_
              exact ra_ireturn rfl rfl ⟨⟨_, (by first | omega | (unfold ra_in at *; omega)), (x5roF (k := 2) (by first | exact ((x5cif_n (fun q => q (show x5EX σ x0 from by exact hz26p.mp (by omega)))).trans ((x5cif_n (fun q => q (by omega))).trans (x5cif_y (by have q9 := hz87q (by omega); rw [x5fx_k hk18] at q9; exact q9)))) | exact ((x5cif_n (fun q => q (show x5EX σ x0 from by exact hz26p.mp (by omega)))).trans ((x5cif_n (fun q => q (by omega))).trans ((x5cif_n (fun q9 => by have q8 := hz87o (by omega); rw [wq_k hk18, ra_gk hk18] at q8; exact Or.elim q9 q8.1 q8.2)).trans (x5cif_y (by rw [← x5em_t (by omega)]; omega)))))) (by decide) (he108.1 rfl) hk110 (ho115 5 (by decide) (by decide)) hk112), rfl⟩, ⟨hF109, hk111, hk113, hg114, (WF_k hk110 hw), (PW_k hpw (ho115 5 (by decide) (by decide)) hk112)⟩⟩
            · exact absurd h116 (by decide)
          · refine ra_load rfl rfl rfl rfl ?_
            refine ra_cIPp (s6_203 (WF_k hk18 hw)) rfl (ct_203 rfl lk_8_298 (Or.inl rfl) sh_179 (Nat.le_of_ble_eq_true rfl)) (fun z118 hz118 hz118p => ?_)
            have hz118o := hz118p.1
            have hz118q := hz118p.2
            clear hz118p
            refine ra_bipush rfl (by decide) ?_
            refine ra_icne rfl rfl hz118 (by first | omega | (unfold ra_in at *; omega)) (fun h119 => ?_) (fun h119 => ?_)
            · refine ra_iconst rfl ?_
              refine ra_store (L' := [_, _, _, _, _]) rfl rfl rfl (Nat.le_of_ble_eq_true rfl) rfl ?_
              refine ra_load rfl rfl rfl rfl ?_
              refine ra_load rfl rfl rfl rfl ?_
              refine ra_iconst rfl ?_
              refine ra_cT (s5_194 (Or.inl rfl) (by first | omega | (unfold ra_in at *; omega))) rfl (ct_194 rfl lk_8_303 (Or.inl rfl) sh_179 (Nat.le_of_ble_eq_true rfl)) (fun s120 hs120 => ?_)
              obtain ⟨hf121, he122, he123⟩ := hs120
              have hF124 := Fr_tr (lo := 179) (hi := 191) hF17 hf121 (by omega)
              have hk125 : s120 (180) = σ (180) := (hf121 (180) (by omega)).trans hk18
              have hk126 : s120 (183) = σ (183) := (hf121 (183) (by omega)).trans hk19
              have hk127 : s120 (184) = σ (184) := (hf121 (184) (by omega)).trans hk20
              have hk128 : s120 (187) = σ (187) := (hf121 (187) (by omega)).trans hk21
              have hg129 : ∀ a, a ≠ 5 → a ≠ 7 → a ≠ 10 → ra_g s120 179 a = ra_g σ 179 a := fun a h5 h7 h10 => ((fun a h7 h10 => he122 a h7) a h7 h10).trans (hg22 a h5 h7 h10)
              have ho130 : ∀ a, a ≠ 7 → a ≠ 10 → ra_g s120 179 a = ra_g σ 179 a := fun a h7 h10 => ((fun a h7 h10 => he122 a h7) a h7 h10).trans (ho23 a h7 h10)
              refine ra_ifne rfl rfl (by first | omega | (unfold ra_in at *; omega)) (fun h131 => ?_) (fun h131 => ?_)
              · exact absurd h131 (by decide)
              · refine ra_load rfl rfl rfl rfl ?_
                refine ra_load rfl rfl rfl rfl ?_
                refine ra_iconst rfl ?_
                refine ra_cQPs (s5_268 hx0 (by first | omega | (unfold ra_in at *; omega))) rfl (ct_268 rfl lk_8_318 (Or.inl rfl) sh_179 (Nat.le_of_ble_eq_true rfl)) (fun z133 s132 hz133 hz133p hs132 => ?_)
                rw [wq_k hk125] at hz133p
                have hz133o := hz133p.1
                have hz133q := hz133p.2
                clear hz133p
                obtain ⟨hf134, he135⟩ := hs132
                have hF136 := Fr_tr (lo := 179) (hi := 191) hF124 hf134 (by omega)
                have hk137 : s132 (180) = σ (180) := (hf134 (180) (by omega)).trans hk125
                have hk138 : s132 (183) = σ (183) := (hf134 (183) (by omega)).trans hk126
                have hk139 : s132 (184) = σ (184) := (hf134 (184) (by omega)).trans hk127
                have hk140 : s132 (187) = σ (187) := (hf134 (187) (by omega)).trans hk128
                have hg141 : ∀ a, a ≠ 5 → a ≠ 7 → a ≠ 10 → ra_g s132 179 a = ra_g σ 179 a := fun a h5 h7 h10 => ((fun a h7 h10 => he135 a h7) a h7 h10).trans (hg129 a h5 h7 h10)
                have ho142 : ∀ a, a ≠ 7 → a ≠ 10 → ra_g s132 179 a = ra_g σ 179 a := fun a h7 h10 => ((fun a h7 h10 => he135 a h7) a h7 h10).trans (ho130 a h7 h10)
                refine ra_ifeq rfl rfl (ra_in01 hz133) (fun h143 => ?_) (fun h143 => ?_)
                · refine ra_load rfl rfl rfl rfl ?_
                  have hx := exn_k hk18 (hz118o.2.2 (by omega))
                  clear hz118o
                  have hp := hz133o (by omega)
                  have hst := hz26p.mpr hp
                  have hfx := hz87o (by omega)
                  rw [wq_k hk18, ra_gk hk18] at hfx
                  have hq := WF_p hw hp.1 hp.2.1 hp.2.2
                  have hb0 : s132 180 = σ 180 := hk137
                  have hb4 : s132 184 = σ 184 := hk139
                  have hb5 : ra_g s132 179 5 = ra_g σ 179 5 := ho142 5 (by decide) (by decide)
                  refine ra_cV (s5_197 (WF_k hk137 hw) (PW_k hpw (ho142 5 (by decide) (by decide)) hk139)) rfl (ct_197 rfl lk_8_366 (Or.inl rfl) sh_179 (Nat.le_of_ble_eq_true rfl)) (fun s144 hs144 => ?_)
                  obtain ⟨hf145, hc146, hc147, hc148, hc149, he150, he151, he152⟩ := hs144
                  have hF153 := Fr_tr (lo := 179) (hi := 191) hF136 hf145 (by omega)
                  have hk154 : s144 (180) = σ (180) := hc146.trans hk137
                  have hk155 : s144 (183) = σ (183) := hc149.trans hk138
                  have hk156 : s144 (187) = σ (187) := (hf145 (187) (by omega)).trans hk140
                  have hg157 : ∀ a, a ≠ 5 → a ≠ 7 → a ≠ 10 → ra_g s144 179 a = ra_g σ 179 a := fun a h5 h7 h10 => ((fun a h5 h7 h10 => he150 a h5) a h5 h7 h10).trans (hg141 a h5 h7 h10)
                  refine ra_load rfl rfl rfl rfl ?_
                  refine ra_load rfl rfl rfl rfl ?_
                  refine ra_iconst rfl ?_
                  refine ra_cTp (sp_200 hx0 (by first | omega | (unfold ra_in at *; omega)) (by first | assumption | rfl | omega)) rfl (ct_200 rfl lk_8_67 (Or.inl rfl) sh_179 (Nat.le_of_ble_eq_true rfl)) ?_
                  rw [wq_k hk154]
                  have hr159 : ra_in (wq σ x0 (2)) := (ra_in_wq _ _ _)
                  refine ra_load rfl rfl rfl rfl ?_
                  refine ra_isub rfl ?_
                  refine ra_store (L' := [_, _, _, _, _]) rfl rfl rfl (Nat.le_of_ble_eq_true rfl) rfl ?_
                  refine ra_load rfl rfl rfl rfl ?_
                  refine ra_load rfl rfl rfl rfl ?_
                  refine ra_iconst rfl ?_
                  refine ra_load rfl rfl rfl rfl ?_
                  refine ra_cV (sp_201 hx0 (by first | omega | (unfold ra_in at *; omega)) hx1 (by first | assumption | rfl | omega)) rfl (ct_201 rfl lk_8_78 (Or.inl rfl) sh_179 (Nat.le_of_ble_eq_true rfl)) (fun s160 hs160 => ?_)
                  obtain ⟨hf161, he162, he163⟩ := hs160
                  have hF164 := Fr_tr (lo := 179) (hi := 191) hF153 hf161 (by omega)
                  have hk165 : s160 (183) = σ (183) := (hf161 (183) (by omega)).trans hk155
                  have hk166 : s160 (187) = σ (187) := (hf161 (187) (by omega)).trans hk156
                  have hg167 : ∀ a, a ≠ 5 → a ≠ 7 → a ≠ 10 → ra_g s160 179 a = ra_g σ 179 a := fun a h5 h7 h10 => (ra_gk (hf161 179 (by omega))).trans (hg157 a h5 h7 h10)
                  have hb := spl_b (p := x0) ⟨by omega, by omega⟩ he163
                  have hb2 : wq s160 x0 1 = wq σ x0 1 := hb.trans (wq_k hk154)
                  refine ra_load rfl rfl rfl rfl ?_
                  refine ra_load rfl rfl rfl rfl ?_
                  refine ra_load rfl rfl rfl rfl ?_
                  refine ra_iconst rfl ?_
                  refine ra_cTp (sp_200 hx0 (by first | omega | (unfold ra_in at *; omega)) (by first | assumption | rfl | omega)) rfl (ct_200 rfl lk_8_67 (Or.inl rfl) sh_179 (Nat.le_of_ble_eq_true rfl)) ?_
                  have hr169 : ra_in (wq s160 x0 (1)) := (ra_in_wq _ _ _)
                  refine ra_load rfl rfl rfl rfl ?_
                  refine ra_iadd rfl ?_
                  refine ra_load rfl rfl rfl rfl ?_
                  refine ra_load rfl rfl rfl rfl ?_
                  refine ra_load rfl rfl rfl rfl ?_
                  refine ra_iconst rfl ?_
                  refine ra_cTp (sp_200 hx0 (by first | omega | (unfold ra_in at *; omega)) (by first | assumption | rfl | omega)) rfl (ct_200 rfl lk_8_67 (Or.inl rfl) sh_179 (Nat.le_of_ble_eq_true rfl)) ?_
                  have hr171 : ra_in (wq s160 x0 (4)) := (ra_in_wq _ _ _)
                  refine ra_iconst rfl ?_
                  refine ra_cIPs (s5_210 (by first | omega | (unfold ra_in at *; omega)) (by first | omega | (unfold ra_in at *; omega)) hr171 (by first | omega | (unfold ra_in at *; omega)) (spl_x ⟨by omega, by omega⟩ he163 (exm_k hk154 hx)) (by omega)) rfl (ct_210 rfl lk_8_250 (Or.inl rfl) sh_179 (Nat.le_of_ble_eq_true rfl)) (fun z173 s172 hz173 hz173p hs172 => ?_)
                  have hz173o := hz173p.1
                  have hz173q := hz173p.2
                  clear hz173p
                  have hF174 := Fr_tr (lo := 179) (hi := 191) hF164 hs172 (by omega)
                  have hk175 : s172 (183) = σ (183) := (hs172 (183) (by omega)).trans hk165
                  have hk176 : s172 (187) = σ (187) := (hs172 (187) (by omega)).trans hk166
                  have hg177 : ∀ a, a ≠ 5 → a ≠ 7 → a ≠ 10 → ra_g s172 179 a = ra_g σ 179 a := fun a h5 h7 h10 => (ra_gk (hs172 179 (by omega))).trans (hg167 a h5 h7 h10)
                  exact ra_ireturn rfl rfl ⟨⟨_, hz173, (x5roY ((x5cif_n (fun q => q hp)).trans ((x5cif_n (fun q => q (by omega))).trans ((x5cif_n (fun q9 => Or.elim q9 hfx.1 hfx.2)).trans ((x5cif_n (fun q => q (by rw [← x5em_t (by omega)]; omega))).trans (x5cif_n (show ¬ x5FUL σ from by have q9 := hz118q; rw [ct_k hk18] at q9; unfold x5FUL; omega)))))) ((ra_gk (hs172 (179) (by omega))).trans ((ra_gk (hf161 (179) (by omega))).trans ((he150 7 (by decide)).trans ((hz133q.2.2 (by omega)).trans ((he123.2 rfl).trans ((he16.2 rfl).trans hp2)))))) (hz173q.1.trans (x5nfr_sc (x5sc_up (SC_tr (SC_tr (SC_tr (SC_tr (SC_tr SC_rf (SC_k (hs1 180 (by omega)))) (SC_k (hf14 180 (by omega)))) (SC_k (hf121 180 (by omega)))) (SC_k (hf134 180 (by omega)))) (SC_k hc146)) he162 he163))) (by have hb9 := (x5sc_up (SC_tr (SC_tr (SC_tr (SC_tr (SC_tr SC_rf (SC_k (hs1 180 (by omega)))) (SC_k (hf14 180 (by omega)))) (SC_k (hf121 180 (by omega)))) (SC_k (hf134 180 (by omega)))) (SC_k hc146)) he162 he163); have q9 := hz173q.2; have e1 : wq s160 x0 1 = wq σ x0 1 := ((he163 (24 + 8 * x0 + 1).toNat (by omega)).trans ((ra_gk hc146).trans ((ra_gk (hf134 (180) (by omega))).trans ((ra_gk (hf121 (180) (by omega))).trans ((ra_gk (hf14 (180) (by omega))).trans (ra_gk (hs1 (180) (by omega)))))))); have e4 : wq s160 x0 4 = wq σ x0 4 := ((he163 (24 + 8 * x0 + 4).toNat (by omega)).trans ((ra_gk hc146).trans ((ra_gk (hf134 (180) (by omega))).trans ((ra_gk (hf121 (180) (by omega))).trans ((ra_gk (hf14 (180) (by omega))).trans (ra_gk (hs1 (180) (by omega)))))))); have e2 : wq s144 x0 2 = wq σ x0 2 := wq_k hk154; rw [x5nfr_sc hb9] at q9; have q8 := x5mk_sc hb9 q9; (try simp only [e1, e2, e4] at q8); exact q8) (x5psh_k (x5psh_s hb5 hb4 hb0 he152) ((ra_gk (hs172 179 (by omega))).trans (ra_gk (hf161 179 (by omega)))) ((hs172 184 (by omega)).trans (hf161 184 (by omega))))), rfl⟩, ⟨hF174, hk175, hk176, hg177, (spl_n (WF_k hk154 hw) ⟨hp.1, hp.2.1, (wq_k hk154).trans hp.2.2⟩ (by rw [ra_gk hk154]; exact hfx.2) (by simp only [wq_k hk154]; omega) he162 he163 hz173o rfl (by simp only [wq_k hk154])), (PW_k (PW_k he151 (ra_gk (hf161 179 (by omega))) (hf161 184 (by omega))) (ra_gk (hs172 179 (by omega))) (hs172 184 (by omega)))⟩⟩
                · refine ra_iconst rfl ?_
                  exact ra_ireturn rfl rfl ⟨⟨_, (by first | omega | (unfold ra_in at *; omega)), (x5roF (k := 3) (x5cif_y (fun q => hz133q.1 (by omega) q)) (by decide) (hz133q.2.1 (by omega)) hk137 (ho142 5 (by decide) (by decide)) hk139), rfl⟩, ⟨hF136, hk138, hk140, hg141, (WF_k hk137 hw), (PW_k hpw (ho142 5 (by decide) (by decide)) hk139)⟩⟩
            · refine ra_iconst rfl ?_
              refine ra_goto rfl rfl ?_
              refine ra_store (L' := [_, _, _, _, _]) rfl rfl rfl (Nat.le_of_ble_eq_true rfl) rfl ?_
              refine ra_load rfl rfl rfl rfl ?_
              refine ra_load rfl rfl rfl rfl ?_
              refine ra_iconst rfl ?_
              refine ra_cT (s5_194 (Or.inr rfl) (by first | omega | (unfold ra_in at *; omega))) rfl (ct_194 rfl lk_8_303 (Or.inl rfl) sh_179 (Nat.le_of_ble_eq_true rfl)) (fun s178 hs178 => ?_)
              obtain ⟨hf179, he180, he181⟩ := hs178
              have hF182 := Fr_tr (lo := 179) (hi := 191) hF17 hf179 (by omega)
              have hk183 : s178 (180) = σ (180) := (hf179 (180) (by omega)).trans hk18
              have hk184 : s178 (183) = σ (183) := (hf179 (183) (by omega)).trans hk19
              have hk185 : s178 (184) = σ (184) := (hf179 (184) (by omega)).trans hk20
              have hk186 : s178 (187) = σ (187) := (hf179 (187) (by omega)).trans hk21
              have hg187 : ∀ a, a ≠ 5 → a ≠ 7 → a ≠ 10 → ra_g s178 179 a = ra_g σ 179 a := fun a h5 h7 h10 => ((fun a h7 h10 => he180 a h7) a h7 h10).trans (hg22 a h5 h7 h10)
              have ho188 : ∀ a, a ≠ 7 → a ≠ 10 → ra_g s178 179 a = ra_g σ 179 a := fun a h7 h10 => ((fun a h7 h10 => he180 a h7) a h7 h10).trans (ho23 a h7 h10)
              refine ra_ifne rfl rfl (by first | omega | (unfold ra_in at *; omega)) (fun h189 => ?_) (fun h189 => ?_)
              · refine ra_iconst rfl ?_
                exact ra_ireturn rfl rfl ⟨⟨_, (by first | omega | (unfold ra_in at *; omega)), (x5roF (k := 2) ((x5cif_n (fun q => q (show x5EX σ x0 from by clear hz118o; exact hz26p.mp (by omega)))).trans ((x5cif_n (fun q => q (by clear hz118o; omega))).trans ((x5cif_n (fun q9 => by clear hz118o; have q8 := hz87o (by omega); rw [wq_k hk18, ra_gk hk18] at q8; exact Or.elim q9 q8.1 q8.2)).trans ((x5cif_n (fun q => q (by clear hz118o; rw [← x5em_t (by omega)]; omega))).trans (x5cif_y (show x5FUL σ from by clear hz118o; have q9 := hz118q; rw [ct_k hk18] at q9; unfold x5FUL; omega)))))) (by decide) (he181.1 rfl) hk183 (ho188 5 (by decide) (by decide)) hk185), rfl⟩, ⟨hF182, hk184, hk186, hg187, (WF_k hk183 hw), (PW_k hpw (ho188 5 (by decide) (by decide)) hk185)⟩⟩
              · exact absurd h189 (by decide)
    · exact absurd h24 (by decide)
  · have hp := hz11p.mp (by omega)
    have hq := WF_p hw hp.1 hp.2.1 hp.2.2
    refine ra_load rfl rfl rfl rfl ?_
    refine ra_i2l rfl hx1 ?_
    refine ra_load rfl rfl rfl rfl ?_
    refine ra_load rfl rfl rfl rfl ?_
    refine ra_iconst rfl ?_
    refine ra_cTp (sp_200 hx0 (by first | omega | (unfold ra_in at *; omega)) (by first | assumption | rfl | omega)) rfl (ct_200 rfl lk_8_67 (Or.inl rfl) sh_179 (Nat.le_of_ble_eq_true rfl)) ?_
    rw [wq_k hk4]
    have hr191 : ra_in (wq σ x0 (3)) := (ra_in_wq _ _ _)
    refine ra_i2l rfl hr191 ?_
    refine ra_load rfl rfl rfl rfl ?_
    refine ra_load rfl rfl rfl rfl ?_
    refine ra_iconst rfl ?_
    refine ra_cTp (sp_200 hx0 (by first | omega | (unfold ra_in at *; omega)) (by first | assumption | rfl | omega)) rfl (ct_200 rfl lk_8_67 (Or.inl rfl) sh_179 (Nat.le_of_ble_eq_true rfl)) ?_
    rw [wq_k hk4]
    have hr193 : ra_in (wq σ x0 (2)) := (ra_in_wq _ _ _)
    refine ra_iconst rfl ?_
    refine ra_isub rfl ?_
    refine ra_i2l rfl (by first | omega | (unfold ra_in at *; omega)) ?_
    refine ra_cTp (sp_193 hx1 hr191 (by first | omega | (unfold ra_in at *; omega))) rfl (ct_193 rfl lk_8_63 (Or.inl rfl) (Nat.le_of_ble_eq_true rfl)) ?_
    refine ra_ifneB rfl rfl (fun h195 => ?_) (fun h195 => ?_)
    · refine ra_iconst rfl ?_
      refine ra_iconst rfl ?_
      refine ra_cT (s5_194 (Or.inl rfl) (by first | omega | (unfold ra_in at *; omega))) rfl (ct_194 rfl lk_8_303 (Or.inl rfl) sh_179 (Nat.le_of_ble_eq_true rfl)) (fun s196 hs196 => ?_)
      obtain ⟨hf197, he198, he199⟩ := hs196
      have hF200 := Fr_tr (lo := 179) (hi := 191) hF3 hf197 (by omega)
      have hk201 : s196 (180) = σ (180) := (hf197 (180) (by omega)).trans hk4
      have hk202 : s196 (183) = σ (183) := (hf197 (183) (by omega)).trans hk5
      have hk203 : s196 (184) = σ (184) := (hf197 (184) (by omega)).trans hk6
      have hk204 : s196 (187) = σ (187) := (hf197 (187) (by omega)).trans hk7
      have hg205 : ∀ a, a ≠ 5 → a ≠ 7 → a ≠ 10 → ra_g s196 179 a = ra_g σ 179 a := fun a h5 h7 h10 => ((fun a h7 h10 => he198 a h7) a h7 h10).trans (hg8 a h5 h7 h10)
      have ho206 : ∀ a, a ≠ 7 → a ≠ 10 → ra_g s196 179 a = ra_g σ 179 a := fun a h7 h10 => ((fun a h7 h10 => he198 a h7) a h7 h10).trans (ho9 a h7 h10)
      refine ra_ifeq rfl rfl (by first | omega | (unfold ra_in at *; omega)) (fun h207 => ?_) (fun h207 => ?_)
      · refine ra_load rfl rfl rfl rfl ?_
        refine ra_load rfl rfl rfl rfl ?_
        refine ra_cQPp (sp_202 hx0) rfl (ct_202 rfl lk_8_313 (Or.inl rfl) sh_179 (Nat.le_of_ble_eq_true rfl)) (fun z209 hz209 hz209p => ?_)
        rw [wq_k hk201] at hz209p
        refine ra_ifeq rfl rfl (ra_in01 hz209) (fun h210 => ?_) (fun h210 => ?_)
        · refine ra_iconst rfl ?_
          refine ra_store (L' := [_, _, _, _, _]) rfl rfl rfl (Nat.le_of_ble_eq_true rfl) rfl ?_
          refine ra_load rfl rfl rfl rfl ?_
          refine ra_load rfl rfl rfl rfl ?_
          refine ra_iconst rfl ?_
          refine ra_cT (s5_194 (Or.inl rfl) (by first | omega | (unfold ra_in at *; omega))) rfl (ct_194 rfl lk_8_303 (Or.inl rfl) sh_179 (Nat.le_of_ble_eq_true rfl)) (fun s211 hs211 => ?_)
          obtain ⟨hf212, he213, he214⟩ := hs211
          have hF215 := Fr_tr (lo := 179) (hi := 191) hF200 hf212 (by omega)
          have hk216 : s211 (180) = σ (180) := (hf212 (180) (by omega)).trans hk201
          have hk217 : s211 (183) = σ (183) := (hf212 (183) (by omega)).trans hk202
          have hk218 : s211 (184) = σ (184) := (hf212 (184) (by omega)).trans hk203
          have hk219 : s211 (187) = σ (187) := (hf212 (187) (by omega)).trans hk204
          have hg220 : ∀ a, a ≠ 5 → a ≠ 7 → a ≠ 10 → ra_g s211 179 a = ra_g σ 179 a := fun a h5 h7 h10 => ((fun a h7 h10 => he213 a h7) a h7 h10).trans (hg205 a h5 h7 h10)
          have ho221 : ∀ a, a ≠ 7 → a ≠ 10 → ra_g s211 179 a = ra_g σ 179 a := fun a h7 h10 => ((fun a h7 h10 => he213 a h7) a h7 h10).trans (ho206 a h7 h10)
          refine ra_ifne rfl rfl (by first | omega | (unfold ra_in at *; omega)) (fun h222 => ?_) (fun h222 => ?_)
          · exact absurd h222 (by decide)
          · refine ra_load rfl rfl rfl rfl ?_
            refine ra_load rfl rfl rfl rfl ?_
            refine ra_iconst rfl ?_
            refine ra_cQPs (s5_268 hx0 (by first | omega | (unfold ra_in at *; omega))) rfl (ct_268 rfl lk_8_318 (Or.inl rfl) sh_179 (Nat.le_of_ble_eq_true rfl)) (fun z224 s223 hz224 hz224p hs223 => ?_)
            rw [wq_k hk216] at hz224p
            have hz224o := hz224p.1
            have hz224q := hz224p.2
            clear hz224p
            obtain ⟨hf225, he226⟩ := hs223
            have hF227 := Fr_tr (lo := 179) (hi := 191) hF215 hf225 (by omega)
            have hk228 : s223 (180) = σ (180) := (hf225 (180) (by omega)).trans hk216
            have hk229 : s223 (183) = σ (183) := (hf225 (183) (by omega)).trans hk217
            have hk230 : s223 (184) = σ (184) := (hf225 (184) (by omega)).trans hk218
            have hk231 : s223 (187) = σ (187) := (hf225 (187) (by omega)).trans hk219
            have hg232 : ∀ a, a ≠ 5 → a ≠ 7 → a ≠ 10 → ra_g s223 179 a = ra_g σ 179 a := fun a h5 h7 h10 => ((fun a h7 h10 => he226 a h7) a h7 h10).trans (hg220 a h5 h7 h10)
            have ho233 : ∀ a, a ≠ 7 → a ≠ 10 → ra_g s223 179 a = ra_g σ 179 a := fun a h7 h10 => ((fun a h7 h10 => he226 a h7) a h7 h10).trans (ho221 a h7 h10)
            refine ra_ifeq rfl rfl (ra_in01 hz224) (fun h234 => ?_) (fun h234 => ?_)
            · refine ra_load rfl rfl rfl rfl ?_
              have hp := hz224o (by omega)
              have hst := hz209p.mpr hp
              have hq := WF_p hw hp.1 hp.2.1 hp.2.2
              have hb0 : s223 180 = σ 180 := hk228
              have hb4 : s223 184 = σ 184 := hk230
              have hb5 : ra_g s223 179 5 = ra_g σ 179 5 := ho233 5 (by decide) (by decide)
              refine ra_cV (s5_197 (WF_k hk228 hw) (PW_k hpw (ho233 5 (by decide) (by decide)) hk230)) rfl (ct_197 rfl lk_8_366 (Or.inl rfl) sh_179 (Nat.le_of_ble_eq_true rfl)) (fun s235 hs235 => ?_)
              obtain ⟨hf236, hc237, hc238, hc239, hc240, he241, he242, he243⟩ := hs235
              have hF244 := Fr_tr (lo := 179) (hi := 191) hF227 hf236 (by omega)
              have hk245 : s235 (180) = σ (180) := hc237.trans hk228
              have hk246 : s235 (183) = σ (183) := hc240.trans hk229
              have hk247 : s235 (187) = σ (187) := (hf236 (187) (by omega)).trans hk231
              have hg248 : ∀ a, a ≠ 5 → a ≠ 7 → a ≠ 10 → ra_g s235 179 a = ra_g σ 179 a := fun a h5 h7 h10 => ((fun a h5 h7 h10 => he241 a h5) a h5 h7 h10).trans (hg232 a h5 h7 h10)
              refine ra_load rfl rfl rfl rfl ?_
              refine ra_load rfl rfl rfl rfl ?_
              refine ra_iconst rfl ?_
              refine ra_cTp (sp_200 hx0 (by first | omega | (unfold ra_in at *; omega)) (by first | assumption | rfl | omega)) rfl (ct_200 rfl lk_8_67 (Or.inl rfl) sh_179 (Nat.le_of_ble_eq_true rfl)) ?_
              rw [wq_k hk245]
              have hr250 : ra_in (wq σ x0 (2)) := (ra_in_wq _ _ _)
              refine ra_load rfl rfl rfl rfl ?_
              refine ra_isub rfl ?_
              refine ra_store (L' := [_, _, _, _, _]) rfl rfl rfl (Nat.le_of_ble_eq_true rfl) rfl ?_
              refine ra_load rfl rfl rfl rfl ?_
              refine ra_load rfl rfl rfl rfl ?_
              refine ra_iconst rfl ?_
              refine ra_load rfl rfl rfl rfl ?_
              refine ra_cV (sp_201 hx0 (by first | omega | (unfold ra_in at *; omega)) hx1 (by first | assumption | rfl | omega)) rfl (ct_201 rfl lk_8_78 (Or.inl rfl) sh_179 (Nat.le_of_ble_eq_true rfl)) (fun s251 hs251 => ?_)
              obtain ⟨hf252, he253, he254⟩ := hs251
              have hF255 := Fr_tr (lo := 179) (hi := 191) hF244 hf252 (by omega)
              have hk256 : s251 (183) = σ (183) := (hf252 (183) (by omega)).trans hk246
              have hk257 : s251 (187) = σ (187) := (hf252 (187) (by omega)).trans hk247
              have hg258 : ∀ a, a ≠ 5 → a ≠ 7 → a ≠ 10 → ra_g s251 179 a = ra_g σ 179 a := fun a h5 h7 h10 => (ra_gk (hf252 179 (by omega))).trans (hg248 a h5 h7 h10)
              refine ra_load rfl rfl rfl rfl ?_
              refine ra_load rfl rfl rfl rfl ?_
              refine ra_load rfl rfl rfl rfl ?_
              refine ra_iconst rfl ?_
              refine ra_cTp (sp_200 hx0 (by first | omega | (unfold ra_in at *; omega)) (by first | assumption | rfl | omega)) rfl (ct_200 rfl lk_8_67 (Or.inl rfl) sh_179 (Nat.le_of_ble_eq_true rfl)) ?_
              have hr260 : ra_in (wq s251 x0 (1)) := (ra_in_wq _ _ _)
              refine ra_load rfl rfl rfl rfl ?_
              refine ra_iadd rfl ?_
              refine ra_load rfl rfl rfl rfl ?_
              refine ra_load rfl rfl rfl rfl ?_
              refine ra_load rfl rfl rfl rfl ?_
              refine ra_iconst rfl ?_
              refine ra_cTp (sp_200 hx0 (by first | omega | (unfold ra_in at *; omega)) (by first | assumption | rfl | omega)) rfl (ct_200 rfl lk_8_67 (Or.inl rfl) sh_179 (Nat.le_of_ble_eq_true rfl)) ?_
              have hr262 : ra_in (wq s251 x0 (4)) := (ra_in_wq _ _ _)
              refine ra_iconst rfl ?_
              refine ra_cIPs (s5_210 (by first | omega | (unfold ra_in at *; omega)) (by first | omega | (unfold ra_in at *; omega)) hr262 (by first | omega | (unfold ra_in at *; omega)) (by exfalso; omega) (by omega)) rfl (ct_210 rfl lk_8_250 (Or.inl rfl) sh_179 (Nat.le_of_ble_eq_true rfl)) (fun z264 s263 hz264 hz264p hs263 => ?_)
              have hz264o := hz264p.1
              have hz264q := hz264p.2
              clear hz264p
              have hF265 := Fr_tr (lo := 179) (hi := 191) hF255 hs263 (by omega)
              have hk266 : s263 (183) = σ (183) := (hs263 (183) (by omega)).trans hk256
              have hk267 : s263 (187) = σ (187) := (hs263 (187) (by omega)).trans hk257
              have hg268 : ∀ a, a ≠ 5 → a ≠ 7 → a ≠ 10 → ra_g s263 179 a = ra_g σ 179 a := fun a h5 h7 h10 => (ra_gk (hs263 179 (by omega))).trans (hg258 a h5 h7 h10)
              exact ra_ireturn rfl rfl ⟨⟨_, hz264, (by exfalso; omega), rfl⟩, ⟨hF265, hk266, hk267, hg268, (by exfalso; omega), (PW_k (PW_k he242 (ra_gk (hf252 179 (by omega))) (hf252 184 (by omega))) (ra_gk (hs263 179 (by omega))) (hs263 184 (by omega)))⟩⟩
            · refine ra_iconst rfl ?_
              exact ra_ireturn rfl rfl ⟨⟨_, (by first | omega | (unfold ra_in at *; omega)), (x5roF (k := 3) (x5cif_y (fun q => hz224q.1 (by omega) q)) (by decide) (hz224q.2.1 (by omega)) hk228 (ho233 5 (by decide) (by decide)) hk230), rfl⟩, ⟨hF227, hk229, hk231, hg232, (WF_k hk228 hw), (PW_k hpw (ho233 5 (by decide) (by decide)) hk230)⟩⟩
        · have hp := hz209p.mp (by omega)
          have hq := WF_p hw hp.1 hp.2.1 hp.2.2
          refine ra_load rfl rfl rfl rfl ?_
          refine ra_load rfl rfl rfl rfl ?_
          refine ra_cQPp (s5_206 hx0 (by first | assumption | rfl | omega)) rfl (ct_206 rfl lk_8_355 (Or.inl rfl) sh_179 (Nat.le_of_ble_eq_true rfl)) (fun z270 hz270 hz270p => ?_)
          have hz270o := hz270p.1
          have hz270q := hz270p.2
          clear hz270p
          refine ra_ifne rfl rfl (ra_in01 hz270) (fun h271 => ?_) (fun h271 => ?_)
          · refine ra_iconst rfl ?_
            refine ra_goto rfl rfl ?_
            refine ra_store (L' := [_, _, _, _, _]) rfl rfl rfl (Nat.le_of_ble_eq_true rfl) rfl ?_
            refine ra_load rfl rfl rfl rfl ?_
            refine ra_load rfl rfl rfl rfl ?_
            refine ra_iconst rfl ?_
            refine ra_cT (s5_194 (Or.inr rfl) (by first | omega | (unfold ra_in at *; omega))) rfl (ct_194 rfl lk_8_303 (Or.inl rfl) sh_179 (Nat.le_of_ble_eq_true rfl)) (fun s272 hs272 => ?_)
            obtain ⟨hf273, he274, he275⟩ := hs272
            have hF276 := Fr_tr (lo := 179) (hi := 191) hF200 hf273 (by omega)
            have hk277 : s272 (180) = σ (180) := (hf273 (180) (by omega)).trans hk201
            have hk278 : s272 (183) = σ (183) := (hf273 (183) (by omega)).trans hk202
            have hk279 : s272 (184) = σ (184) := (hf273 (184) (by omega)).trans hk203
            have hk280 : s272 (187) = σ (187) := (hf273 (187) (by omega)).trans hk204
            have hg281 : ∀ a, a ≠ 5 → a ≠ 7 → a ≠ 10 → ra_g s272 179 a = ra_g σ 179 a := fun a h5 h7 h10 => ((fun a h7 h10 => he274 a h7) a h7 h10).trans (hg205 a h5 h7 h10)
            have ho282 : ∀ a, a ≠ 7 → a ≠ 10 → ra_g s272 179 a = ra_g σ 179 a := fun a h7 h10 => ((fun a h7 h10 => he274 a h7) a h7 h10).trans (ho206 a h7 h10)
            refine ra_ifne rfl rfl (by first | omega | (unfold ra_in at *; omega)) (fun h283 => ?_) (fun h283 => ?_)
            · refine ra_iconst rfl ?_
              exact ra_ireturn rfl rfl ⟨⟨_, (by first | omega | (unfold ra_in at *; omega)), (x5roF (k := 2) (by first | exact ((x5cif_n (fun q => q (show x5EX σ x0 from by exact hz209p.mp (by omega)))).trans ((x5cif_n (fun q => q (by omega))).trans (x5cif_y (by have q9 := hz270q (by omega); rw [x5fx_k hk201] at q9; exact q9)))) | exact ((x5cif_n (fun q => q (show x5EX σ x0 from by exact hz209p.mp (by omega)))).trans ((x5cif_n (fun q => q (by omega))).trans ((x5cif_n (fun q9 => by have q8 := hz270o (by omega); rw [wq_k hk201, ra_gk hk201] at q8; exact Or.elim q9 q8.1 q8.2)).trans (x5cif_y (by rw [← x5em_t (by omega)]; omega)))))) (by decide) (he275.1 rfl) hk277 (ho282 5 (by decide) (by decide)) hk279), rfl⟩, ⟨hF276, hk278, hk280, hg281, (WF_k hk277 hw), (PW_k hpw (ho282 5 (by decide) (by decide)) hk279)⟩⟩
            · exact absurd h283 (by decide)
          · refine ra_load rfl rfl rfl rfl ?_
            refine ra_load rfl rfl rfl rfl ?_
            refine ra_iconst rfl ?_
            refine ra_cTp (sp_200 hx0 (by first | omega | (unfold ra_in at *; omega)) (by first | assumption | rfl | omega)) rfl (ct_200 rfl lk_8_67 (Or.inl rfl) sh_179 (Nat.le_of_ble_eq_true rfl)) ?_
            rw [wq_k hk201]
            have hr285 : ra_in (wq σ x0 (1)) := (ra_in_wq _ _ _)
            refine ra_load rfl rfl rfl rfl ?_
            refine ra_iadd rfl ?_
            refine ra_load rfl rfl rfl rfl ?_
            refine ra_getR rfl lk_8_7 (Nat.zero_le _) sh_179 rfl ?_
            refine ra_iconst rfl ?_
            refine ra_ialoadJ (j := 3) rfl sh_180 rfl (by decide) rfl (by decide) ?_
            rw [ra_gk hk201]
            have hr286 : ra_in (ra_g σ (180) 3) := (ra_in_g _ _ _)
            refine ra_irem rfl (by first | omega | (unfold ra_in at *; omega)) hr286 (by omega) ?_
            refine ra_ifne rfl rfl (ra_in_tmod (by first | omega | (unfold ra_in at *; omega)) (by omega)) (fun h287 => ?_) (fun h287 => ?_)
            · refine ra_iconst rfl ?_
              refine ra_goto rfl rfl ?_
              refine ra_store (L' := [_, _, _, _, _]) rfl rfl rfl (Nat.le_of_ble_eq_true rfl) rfl ?_
              refine ra_load rfl rfl rfl rfl ?_
              refine ra_load rfl rfl rfl rfl ?_
              refine ra_iconst rfl ?_
              refine ra_cT (s5_194 (Or.inr rfl) (by first | omega | (unfold ra_in at *; omega))) rfl (ct_194 rfl lk_8_303 (Or.inl rfl) sh_179 (Nat.le_of_ble_eq_true rfl)) (fun s288 hs288 => ?_)
              obtain ⟨hf289, he290, he291⟩ := hs288
              have hF292 := Fr_tr (lo := 179) (hi := 191) hF200 hf289 (by omega)
              have hk293 : s288 (180) = σ (180) := (hf289 (180) (by omega)).trans hk201
              have hk294 : s288 (183) = σ (183) := (hf289 (183) (by omega)).trans hk202
              have hk295 : s288 (184) = σ (184) := (hf289 (184) (by omega)).trans hk203
              have hk296 : s288 (187) = σ (187) := (hf289 (187) (by omega)).trans hk204
              have hg297 : ∀ a, a ≠ 5 → a ≠ 7 → a ≠ 10 → ra_g s288 179 a = ra_g σ 179 a := fun a h5 h7 h10 => ((fun a h7 h10 => he290 a h7) a h7 h10).trans (hg205 a h5 h7 h10)
              have ho298 : ∀ a, a ≠ 7 → a ≠ 10 → ra_g s288 179 a = ra_g σ 179 a := fun a h7 h10 => ((fun a h7 h10 => he290 a h7) a h7 h10).trans (ho206 a h7 h10)
              refine ra_ifne rfl rfl (by first | omega | (unfold ra_in at *; omega)) (fun h299 => ?_) (fun h299 => ?_)
              · refine ra_iconst rfl ?_
                exact ra_ireturn rfl rfl ⟨⟨_, (by first | omega | (unfold ra_in at *; omega)), (x5roF (k := 2) (by first | exact ((x5cif_n (fun q => q (show x5EX σ x0 from by exact hz209p.mp (by omega)))).trans ((x5cif_n (fun q => q (by omega))).trans (x5cif_y (by have q9 := hz270q (by omega); rw [x5fx_k hk201] at q9; exact q9)))) | exact ((x5cif_n (fun q => q (show x5EX σ x0 from by exact hz209p.mp (by omega)))).trans ((x5cif_n (fun q => q (by omega))).trans ((x5cif_n (fun q9 => by have q8 := hz270o (by omega); rw [wq_k hk201, ra_gk hk201] at q8; exact Or.elim q9 q8.1 q8.2)).trans (x5cif_y (by rw [← x5em_t (by omega)]; omega)))))) (by decide) (he291.1 rfl) hk293 (ho298 5 (by decide) (by decide)) hk295), rfl⟩, ⟨hF292, hk294, hk296, hg297, (WF_k hk293 hw), (PW_k hpw (ho298 5 (by decide) (by decide)) hk295)⟩⟩
              · exact absurd h299 (by decide)
            · refine ra_load rfl rfl rfl rfl ?_
              refine ra_cIPp (s6_203 (WF_k hk201 hw)) rfl (ct_203 rfl lk_8_298 (Or.inl rfl) sh_179 (Nat.le_of_ble_eq_true rfl)) (fun z301 hz301 hz301p => ?_)
              have hz301o := hz301p.1
              have hz301q := hz301p.2
              clear hz301p
              refine ra_bipush rfl (by decide) ?_
              refine ra_icne rfl rfl hz301 (by first | omega | (unfold ra_in at *; omega)) (fun h302 => ?_) (fun h302 => ?_)
              · refine ra_iconst rfl ?_
                refine ra_store (L' := [_, _, _, _, _]) rfl rfl rfl (Nat.le_of_ble_eq_true rfl) rfl ?_
                refine ra_load rfl rfl rfl rfl ?_
                refine ra_load rfl rfl rfl rfl ?_
                refine ra_iconst rfl ?_
                refine ra_cT (s5_194 (Or.inl rfl) (by first | omega | (unfold ra_in at *; omega))) rfl (ct_194 rfl lk_8_303 (Or.inl rfl) sh_179 (Nat.le_of_ble_eq_true rfl)) (fun s303 hs303 => ?_)
                obtain ⟨hf304, he305, he306⟩ := hs303
                have hF307 := Fr_tr (lo := 179) (hi := 191) hF200 hf304 (by omega)
                have hk308 : s303 (180) = σ (180) := (hf304 (180) (by omega)).trans hk201
                have hk309 : s303 (183) = σ (183) := (hf304 (183) (by omega)).trans hk202
                have hk310 : s303 (184) = σ (184) := (hf304 (184) (by omega)).trans hk203
                have hk311 : s303 (187) = σ (187) := (hf304 (187) (by omega)).trans hk204
                have hg312 : ∀ a, a ≠ 5 → a ≠ 7 → a ≠ 10 → ra_g s303 179 a = ra_g σ 179 a := fun a h5 h7 h10 => ((fun a h7 h10 => he305 a h7) a h7 h10).trans (hg205 a h5 h7 h10)
                have ho313 : ∀ a, a ≠ 7 → a ≠ 10 → ra_g s303 179 a = ra_g σ 179 a := fun a h7 h10 => ((fun a h7 h10 => he305 a h7) a h7 h10).trans (ho206 a h7 h10)
                refine ra_ifne rfl rfl (by first | omega | (unfold ra_in at *; omega)) (fun h314 => ?_) (fun h314 => ?_)
                · exact absurd h314 (by decide)
                · refine ra_load rfl rfl rfl rfl ?_
                  refine ra_load rfl rfl rfl rfl ?_
                  refine ra_iconst rfl ?_
                  refine ra_cQPs (s5_268 hx0 (by first | omega | (unfold ra_in at *; omega))) rfl (ct_268 rfl lk_8_318 (Or.inl rfl) sh_179 (Nat.le_of_ble_eq_true rfl)) (fun z316 s315 hz316 hz316p hs315 => ?_)
                  rw [wq_k hk308] at hz316p
                  have hz316o := hz316p.1
                  have hz316q := hz316p.2
                  clear hz316p
                  obtain ⟨hf317, he318⟩ := hs315
                  have hF319 := Fr_tr (lo := 179) (hi := 191) hF307 hf317 (by omega)
                  have hk320 : s315 (180) = σ (180) := (hf317 (180) (by omega)).trans hk308
                  have hk321 : s315 (183) = σ (183) := (hf317 (183) (by omega)).trans hk309
                  have hk322 : s315 (184) = σ (184) := (hf317 (184) (by omega)).trans hk310
                  have hk323 : s315 (187) = σ (187) := (hf317 (187) (by omega)).trans hk311
                  have hg324 : ∀ a, a ≠ 5 → a ≠ 7 → a ≠ 10 → ra_g s315 179 a = ra_g σ 179 a := fun a h5 h7 h10 => ((fun a h7 h10 => he318 a h7) a h7 h10).trans (hg312 a h5 h7 h10)
                  have ho325 : ∀ a, a ≠ 7 → a ≠ 10 → ra_g s315 179 a = ra_g σ 179 a := fun a h7 h10 => ((fun a h7 h10 => he318 a h7) a h7 h10).trans (ho313 a h7 h10)
                  refine ra_ifeq rfl rfl (ra_in01 hz316) (fun h326 => ?_) (fun h326 => ?_)
                  · refine ra_load rfl rfl rfl rfl ?_
                    have hx := exn_k hk201 (hz301o.2.2 (by omega))
                    clear hz301o
                    have hp := hz316o (by omega)
                    have hst := hz209p.mpr hp
                    have hfx := hz270o (by omega)
                    rw [wq_k hk201, ra_gk hk201] at hfx
                    have hq := WF_p hw hp.1 hp.2.1 hp.2.2
                    have hb0 : s315 180 = σ 180 := hk320
                    have hb4 : s315 184 = σ 184 := hk322
                    have hb5 : ra_g s315 179 5 = ra_g σ 179 5 := ho325 5 (by decide) (by decide)
                    refine ra_cV (s5_197 (WF_k hk320 hw) (PW_k hpw (ho325 5 (by decide) (by decide)) hk322)) rfl (ct_197 rfl lk_8_366 (Or.inl rfl) sh_179 (Nat.le_of_ble_eq_true rfl)) (fun s327 hs327 => ?_)
                    obtain ⟨hf328, hc329, hc330, hc331, hc332, he333, he334, he335⟩ := hs327
                    have hF336 := Fr_tr (lo := 179) (hi := 191) hF319 hf328 (by omega)
                    have hk337 : s327 (180) = σ (180) := hc329.trans hk320
                    have hk338 : s327 (183) = σ (183) := hc332.trans hk321
                    have hk339 : s327 (187) = σ (187) := (hf328 (187) (by omega)).trans hk323
                    have hg340 : ∀ a, a ≠ 5 → a ≠ 7 → a ≠ 10 → ra_g s327 179 a = ra_g σ 179 a := fun a h5 h7 h10 => ((fun a h5 h7 h10 => he333 a h5) a h5 h7 h10).trans (hg324 a h5 h7 h10)
                    refine ra_load rfl rfl rfl rfl ?_
                    refine ra_load rfl rfl rfl rfl ?_
                    refine ra_iconst rfl ?_
                    refine ra_cTp (sp_200 hx0 (by first | omega | (unfold ra_in at *; omega)) (by first | assumption | rfl | omega)) rfl (ct_200 rfl lk_8_67 (Or.inl rfl) sh_179 (Nat.le_of_ble_eq_true rfl)) ?_
                    rw [wq_k hk337]
                    have hr342 : ra_in (wq σ x0 (2)) := (ra_in_wq _ _ _)
                    refine ra_load rfl rfl rfl rfl ?_
                    refine ra_isub rfl ?_
                    refine ra_store (L' := [_, _, _, _, _]) rfl rfl rfl (Nat.le_of_ble_eq_true rfl) rfl ?_
                    refine ra_load rfl rfl rfl rfl ?_
                    refine ra_load rfl rfl rfl rfl ?_
                    refine ra_iconst rfl ?_
                    refine ra_load rfl rfl rfl rfl ?_
                    refine ra_cV (sp_201 hx0 (by first | omega | (unfold ra_in at *; omega)) hx1 (by first | assumption | rfl | omega)) rfl (ct_201 rfl lk_8_78 (Or.inl rfl) sh_179 (Nat.le_of_ble_eq_true rfl)) (fun s343 hs343 => ?_)
                    obtain ⟨hf344, he345, he346⟩ := hs343
                    have hF347 := Fr_tr (lo := 179) (hi := 191) hF336 hf344 (by omega)
                    have hk348 : s343 (183) = σ (183) := (hf344 (183) (by omega)).trans hk338
                    have hk349 : s343 (187) = σ (187) := (hf344 (187) (by omega)).trans hk339
                    have hg350 : ∀ a, a ≠ 5 → a ≠ 7 → a ≠ 10 → ra_g s343 179 a = ra_g σ 179 a := fun a h5 h7 h10 => (ra_gk (hf344 179 (by omega))).trans (hg340 a h5 h7 h10)
                    have hb := spl_b (p := x0) ⟨by omega, by omega⟩ he346
                    have hb2 : wq s343 x0 1 = wq σ x0 1 := hb.trans (wq_k hk337)
                    refine ra_load rfl rfl rfl rfl ?_
                    refine ra_load rfl rfl rfl rfl ?_
                    refine ra_load rfl rfl rfl rfl ?_
                    refine ra_iconst rfl ?_
                    refine ra_cTp (sp_200 hx0 (by first | omega | (unfold ra_in at *; omega)) (by first | assumption | rfl | omega)) rfl (ct_200 rfl lk_8_67 (Or.inl rfl) sh_179 (Nat.le_of_ble_eq_true rfl)) ?_
                    have hr352 : ra_in (wq s343 x0 (1)) := (ra_in_wq _ _ _)
                    refine ra_load rfl rfl rfl rfl ?_
                    refine ra_iadd rfl ?_
                    refine ra_load rfl rfl rfl rfl ?_
                    refine ra_load rfl rfl rfl rfl ?_
                    refine ra_load rfl rfl rfl rfl ?_
                    refine ra_iconst rfl ?_
                    refine ra_cTp (sp_200 hx0 (by first | omega | (unfold ra_in at *; omega)) (by first | assumption | rfl | omega)) rfl (ct_200 rfl lk_8_67 (Or.inl rfl) sh_179 (Nat.le_of_ble_eq_true rfl)) ?_
                    have hr354 : ra_in (wq s343 x0 (4)) := (ra_in_wq _ _ _)
                    refine ra_iconst rfl ?_
                    refine ra_cIPs (s5_210 (by first | omega | (unfold ra_in at *; omega)) (by first | omega | (unfold ra_in at *; omega)) hr354 (by first | omega | (unfold ra_in at *; omega)) (spl_x ⟨by omega, by omega⟩ he346 (exm_k hk337 hx)) (by omega)) rfl (ct_210 rfl lk_8_250 (Or.inl rfl) sh_179 (Nat.le_of_ble_eq_true rfl)) (fun z356 s355 hz356 hz356p hs355 => ?_)
                    have hz356o := hz356p.1
                    have hz356q := hz356p.2
                    clear hz356p
                    have hF357 := Fr_tr (lo := 179) (hi := 191) hF347 hs355 (by omega)
                    have hk358 : s355 (183) = σ (183) := (hs355 (183) (by omega)).trans hk348
                    have hk359 : s355 (187) = σ (187) := (hs355 (187) (by omega)).trans hk349
                    have hg360 : ∀ a, a ≠ 5 → a ≠ 7 → a ≠ 10 → ra_g s355 179 a = ra_g σ 179 a := fun a h5 h7 h10 => (ra_gk (hs355 179 (by omega))).trans (hg350 a h5 h7 h10)
                    exact ra_ireturn rfl rfl ⟨⟨_, hz356, (x5roY ((x5cif_n (fun q => q hp)).trans ((x5cif_n (fun q => q (by omega))).trans ((x5cif_n (fun q9 => Or.elim q9 hfx.1 hfx.2)).trans ((x5cif_n (fun q => q (by rw [← x5em_t (by omega)]; omega))).trans (x5cif_n (show ¬ x5FUL σ from by have q9 := hz301q; rw [ct_k hk201] at q9; unfold x5FUL; omega)))))) ((ra_gk (hs355 (179) (by omega))).trans ((ra_gk (hf344 (179) (by omega))).trans ((he333 7 (by decide)).trans ((hz316q.2.2 (by omega)).trans ((he306.2 rfl).trans ((he199.2 rfl).trans hp2)))))) (hz356q.1.trans (x5nfr_sc (x5sc_up (SC_tr (SC_tr (SC_tr (SC_tr (SC_tr SC_rf (SC_k (hs1 180 (by omega)))) (SC_k (hf197 180 (by omega)))) (SC_k (hf304 180 (by omega)))) (SC_k (hf317 180 (by omega)))) (SC_k hc329)) he345 he346))) (by have hb9 := (x5sc_up (SC_tr (SC_tr (SC_tr (SC_tr (SC_tr SC_rf (SC_k (hs1 180 (by omega)))) (SC_k (hf197 180 (by omega)))) (SC_k (hf304 180 (by omega)))) (SC_k (hf317 180 (by omega)))) (SC_k hc329)) he345 he346); have q9 := hz356q.2; have e1 : wq s343 x0 1 = wq σ x0 1 := ((he346 (24 + 8 * x0 + 1).toNat (by omega)).trans ((ra_gk hc329).trans ((ra_gk (hf317 (180) (by omega))).trans ((ra_gk (hf304 (180) (by omega))).trans ((ra_gk (hf197 (180) (by omega))).trans (ra_gk (hs1 (180) (by omega)))))))); have e4 : wq s343 x0 4 = wq σ x0 4 := ((he346 (24 + 8 * x0 + 4).toNat (by omega)).trans ((ra_gk hc329).trans ((ra_gk (hf317 (180) (by omega))).trans ((ra_gk (hf304 (180) (by omega))).trans ((ra_gk (hf197 (180) (by omega))).trans (ra_gk (hs1 (180) (by omega)))))))); have e2 : wq s327 x0 2 = wq σ x0 2 := wq_k hk337; rw [x5nfr_sc hb9] at q9; have q8 := x5mk_sc hb9 q9; (try simp only [e1, e2, e4] at q8); exact q8) (x5psh_k (x5psh_s hb5 hb4 hb0 he335) ((ra_gk (hs355 179 (by omega))).trans (ra_gk (hf344 179 (by omega)))) ((hs355 184 (by omega)).trans (hf344 184 (by omega))))), rfl⟩, ⟨hF357, hk358, hk359, hg360, (spl_n (WF_k hk337 hw) ⟨hp.1, hp.2.1, (wq_k hk337).trans hp.2.2⟩ (by rw [ra_gk hk337]; exact hfx.2) (by simp only [wq_k hk337]; omega) he345 he346 hz356o rfl (by simp only [wq_k hk337])), (PW_k (PW_k he334 (ra_gk (hf344 179 (by omega))) (hf344 184 (by omega))) (ra_gk (hs355 179 (by omega))) (hs355 184 (by omega)))⟩⟩
                  · refine ra_iconst rfl ?_
                    exact ra_ireturn rfl rfl ⟨⟨_, (by first | omega | (unfold ra_in at *; omega)), (x5roF (k := 3) (x5cif_y (fun q => hz316q.1 (by omega) q)) (by decide) (hz316q.2.1 (by omega)) hk320 (ho325 5 (by decide) (by decide)) hk322), rfl⟩, ⟨hF319, hk321, hk323, hg324, (WF_k hk320 hw), (PW_k hpw (ho325 5 (by decide) (by decide)) hk322)⟩⟩
              · refine ra_iconst rfl ?_
                refine ra_goto rfl rfl ?_
                refine ra_store (L' := [_, _, _, _, _]) rfl rfl rfl (Nat.le_of_ble_eq_true rfl) rfl ?_
                refine ra_load rfl rfl rfl rfl ?_
                refine ra_load rfl rfl rfl rfl ?_
                refine ra_iconst rfl ?_
                refine ra_cT (s5_194 (Or.inr rfl) (by first | omega | (unfold ra_in at *; omega))) rfl (ct_194 rfl lk_8_303 (Or.inl rfl) sh_179 (Nat.le_of_ble_eq_true rfl)) (fun s361 hs361 => ?_)
                obtain ⟨hf362, he363, he364⟩ := hs361
                have hF365 := Fr_tr (lo := 179) (hi := 191) hF200 hf362 (by omega)
                have hk366 : s361 (180) = σ (180) := (hf362 (180) (by omega)).trans hk201
                have hk367 : s361 (183) = σ (183) := (hf362 (183) (by omega)).trans hk202
                have hk368 : s361 (184) = σ (184) := (hf362 (184) (by omega)).trans hk203
                have hk369 : s361 (187) = σ (187) := (hf362 (187) (by omega)).trans hk204
                have hg370 : ∀ a, a ≠ 5 → a ≠ 7 → a ≠ 10 → ra_g s361 179 a = ra_g σ 179 a := fun a h5 h7 h10 => ((fun a h7 h10 => he363 a h7) a h7 h10).trans (hg205 a h5 h7 h10)
                have ho371 : ∀ a, a ≠ 7 → a ≠ 10 → ra_g s361 179 a = ra_g σ 179 a := fun a h7 h10 => ((fun a h7 h10 => he363 a h7) a h7 h10).trans (ho206 a h7 h10)
                refine ra_ifne rfl rfl (by first | omega | (unfold ra_in at *; omega)) (fun h372 => ?_) (fun h372 => ?_)
                · refine ra_iconst rfl ?_
                  exact ra_ireturn rfl rfl ⟨⟨_, (by first | omega | (unfold ra_in at *; omega)), (x5roF (k := 2) ((x5cif_n (fun q => q (show x5EX σ x0 from by clear hz301o; exact hz209p.mp (by omega)))).trans ((x5cif_n (fun q => q (by clear hz301o; omega))).trans ((x5cif_n (fun q9 => by clear hz301o; have q8 := hz270o (by omega); rw [wq_k hk201, ra_gk hk201] at q8; exact Or.elim q9 q8.1 q8.2)).trans ((x5cif_n (fun q => q (by clear hz301o; rw [← x5em_t (by omega)]; omega))).trans (x5cif_y (show x5FUL σ from by clear hz301o; have q9 := hz301q; rw [ct_k hk201] at q9; unfold x5FUL; omega)))))) (by decide) (he364.1 rfl) hk366 (ho371 5 (by decide) (by decide)) hk368), rfl⟩, ⟨hF365, hk367, hk369, hg370, (WF_k hk366 hw), (PW_k hpw (ho371 5 (by decide) (by decide)) hk368)⟩⟩
                · exact absurd h372 (by decide)
      · exact absurd h207 (by decide)
    · refine ra_iconst rfl ?_
      refine ra_goto rfl rfl ?_
      refine ra_iconst rfl ?_
      refine ra_cT (s5_194 (Or.inr rfl) (by first | omega | (unfold ra_in at *; omega))) rfl (ct_194 rfl lk_8_303 (Or.inl rfl) sh_179 (Nat.le_of_ble_eq_true rfl)) (fun s373 hs373 => ?_)
      obtain ⟨hf374, he375, he376⟩ := hs373
      have hF377 := Fr_tr (lo := 179) (hi := 191) hF3 hf374 (by omega)
      have hk378 : s373 (180) = σ (180) := (hf374 (180) (by omega)).trans hk4
      have hk379 : s373 (183) = σ (183) := (hf374 (183) (by omega)).trans hk5
      have hk380 : s373 (184) = σ (184) := (hf374 (184) (by omega)).trans hk6
      have hk381 : s373 (187) = σ (187) := (hf374 (187) (by omega)).trans hk7
      have hg382 : ∀ a, a ≠ 5 → a ≠ 7 → a ≠ 10 → ra_g s373 179 a = ra_g σ 179 a := fun a h5 h7 h10 => ((fun a h7 h10 => he375 a h7) a h7 h10).trans (hg8 a h5 h7 h10)
      have ho383 : ∀ a, a ≠ 7 → a ≠ 10 → ra_g s373 179 a = ra_g σ 179 a := fun a h7 h10 => ((fun a h7 h10 => he375 a h7) a h7 h10).trans (ho9 a h7 h10)
      refine ra_ifeq rfl rfl (by first | omega | (unfold ra_in at *; omega)) (fun h384 => ?_) (fun h384 => ?_)
      · exact absurd h384 (by decide)
      · refine ra_iconst rfl ?_
        exact ra_ireturn rfl rfl ⟨⟨_, (by first | omega | (unfold ra_in at *; omega)), (x5roF (k := 1) ((x5cif_n (fun q => q (show x5EX σ x0 from by exact hz11p.mp (by omega)))).trans (x5cif_y (by omega))) (by decide) (he376.1 rfl) hk378 (ho383 5 (by decide) (by decide)) hk380), rfl⟩, ⟨hF377, hk379, hk381, hg382, (WF_k hk378 hw), (PW_k hpw (ho383 5 (by decide) (by decide)) hk380)⟩⟩
theorem s5_312 {n : Nat} {f : Nat → Int32} {d : Nat} {x0 : Int} {σ : ra_V} (hx0 : ra_in x0) (hw : WF σ) (hpw : PW σ) : ra_C (g_Gs n f) g_sh 0 (d + 5) 312 [.index (179), ra_I x0] σ (fun r9 s => (∃ z, ra_in z ∧ (x5RO (x5dcJn σ x0) (fun z => z = x5jnF σ x0) (x5up (x5up σ (24 + 8 * x5jnF σ x0 + 0).toNat 0) (24 + 8 * x0 + 2).toNat (wq σ x0 2 + wq σ (x5jnF σ x0) 2)) σ s z) ∧ r9 = .inl (some (ra_I z))) ∧ Fr (179) (191) σ s ∧ s (183) = σ (183) ∧ s (187) = σ (187) ∧ (∀ a, a ≠ 5 → a ≠ 7 → a ≠ 10 → ra_g s 179 a = ra_g σ 179 a) ∧ WF s ∧ PW s) := by
  refine ra_enter (nn := 1) mt_312 rfl (Nat.le_of_ble_eq_true rfl) rfl (fun h => absurd h (by decide +kernel)) ?_
  have hw0 := WF_a hw
  unfold WFa at hw0
  refine ra_load rfl rfl rfl rfl ?_
  refine ra_iconst rfl ?_
  refine ra_putI rfl lk_8_51 (Nat.zero_le _) sh_179 rfl rfl ?_
  refine ra_newU (by first | omega | (unfold ra_in at *; omega)) (fun s1 hs1 hpv2 hpv2o => ?_)
  have hpv2_99 := hpv2o 99 (by decide)
  have hF3 := Fr_tr (lo := 179) (hi := 191) Fr_rf hs1 (by omega)
  have hk4 : s1 (180) = σ (180) := (hs1 (180) (by omega))
  have hk5 : s1 (183) = σ (183) := (hs1 (183) (by omega))
  have hk6 : s1 (184) = σ (184) := (hs1 (184) (by omega))
  have hk7 : s1 (187) = σ (187) := (hs1 (187) (by omega))
  have hg8 : ∀ a, a ≠ 5 → a ≠ 7 → a ≠ 10 → ra_g s1 179 a = ra_g σ 179 a := fun a h5 h7 h10 => ((fun a h7 h10 => hpv2o a h7) a h7 h10).trans ((fun _ _ _ _ => rfl) a h5 h7 h10)
  have ho9 : ∀ a, a ≠ 7 → a ≠ 10 → ra_g s1 179 a = ra_g σ 179 a := fun a h7 h10 => ((fun a h7 h10 => hpv2o a h7) a h7 h10).trans ((fun _ _ _ => rfl) a h7 h10)
  refine ra_load rfl rfl rfl rfl ?_
  refine ra_load rfl rfl rfl rfl ?_
  refine ra_load rfl rfl rfl rfl ?_
  refine ra_cQPp (sp_202 hx0) rfl (ct_202 rfl lk_8_313 (Or.inl rfl) sh_179 (Nat.le_of_ble_eq_true rfl)) (fun z11 hz11 hz11p => ?_)
  rw [wq_k hk4] at hz11p
  refine ra_ifeq rfl rfl (ra_in01 hz11) (fun h12 => ?_) (fun h12 => ?_)
  · refine ra_iconst rfl ?_
    refine ra_iconst rfl ?_
    refine ra_cT (s5_194 (Or.inl rfl) (by first | omega | (unfold ra_in at *; omega))) rfl (ct_194 rfl lk_8_303 (Or.inl rfl) sh_179 (Nat.le_of_ble_eq_true rfl)) (fun s13 hs13 => ?_)
    obtain ⟨hf14, he15, he16⟩ := hs13
    have hF17 := Fr_tr (lo := 179) (hi := 191) hF3 hf14 (by omega)
    have hk18 : s13 (180) = σ (180) := (hf14 (180) (by omega)).trans hk4
    have hk19 : s13 (183) = σ (183) := (hf14 (183) (by omega)).trans hk5
    have hk20 : s13 (184) = σ (184) := (hf14 (184) (by omega)).trans hk6
    have hk21 : s13 (187) = σ (187) := (hf14 (187) (by omega)).trans hk7
    have hg22 : ∀ a, a ≠ 5 → a ≠ 7 → a ≠ 10 → ra_g s13 179 a = ra_g σ 179 a := fun a h5 h7 h10 => ((fun a h7 h10 => he15 a h7) a h7 h10).trans (hg8 a h5 h7 h10)
    have ho23 : ∀ a, a ≠ 7 → a ≠ 10 → ra_g s13 179 a = ra_g σ 179 a := fun a h7 h10 => ((fun a h7 h10 => he15 a h7) a h7 h10).trans (ho9 a h7 h10)
    refine ra_ifne rfl rfl (by first | omega | (unfold ra_in at *; omega)) (fun h24 => ?_) (fun h24 => ?_)
    · exact absurd h24 (by decide)
    · refine ra_load rfl rfl rfl rfl ?_
      refine ra_load rfl rfl rfl rfl ?_
      refine ra_iconst rfl ?_
      refine ra_cQPs (s5_268 hx0 (by first | omega | (unfold ra_in at *; omega))) rfl (ct_268 rfl lk_8_318 (Or.inl rfl) sh_179 (Nat.le_of_ble_eq_true rfl)) (fun z26 s25 hz26 hz26p hs25 => ?_)
      rw [wq_k hk18] at hz26p
      have hz26o := hz26p.1
      have hz26q := hz26p.2
      clear hz26p
      obtain ⟨hf27, he28⟩ := hs25
      have hF29 := Fr_tr (lo := 179) (hi := 191) hF17 hf27 (by omega)
      have hk30 : s25 (180) = σ (180) := (hf27 (180) (by omega)).trans hk18
      have hk31 : s25 (183) = σ (183) := (hf27 (183) (by omega)).trans hk19
      have hk32 : s25 (184) = σ (184) := (hf27 (184) (by omega)).trans hk20
      have hk33 : s25 (187) = σ (187) := (hf27 (187) (by omega)).trans hk21
      have hg34 : ∀ a, a ≠ 5 → a ≠ 7 → a ≠ 10 → ra_g s25 179 a = ra_g σ 179 a := fun a h5 h7 h10 => ((fun a h7 h10 => he28 a h7) a h7 h10).trans (hg22 a h5 h7 h10)
      have ho35 : ∀ a, a ≠ 7 → a ≠ 10 → ra_g s25 179 a = ra_g σ 179 a := fun a h7 h10 => ((fun a h7 h10 => he28 a h7) a h7 h10).trans (ho23 a h7 h10)
      refine ra_ifeq rfl rfl (ra_in01 hz26) (fun h36 => ?_) (fun h36 => ?_)
      · refine ra_load rfl rfl rfl rfl ?_
        have hp := hz26o (by omega)
        have hst := hz11p.mpr hp
        have hq := WF_p hw hp.1 hp.2.1 hp.2.2
        have hb0 : s25 180 = σ 180 := hk30
        have hb4 : s25 184 = σ 184 := hk32
        have hb5 : ra_g s25 179 5 = ra_g σ 179 5 := ho35 5 (by decide) (by decide)
        refine ra_cV (s5_197 (WF_k hk30 hw) (PW_k hpw (ho35 5 (by decide) (by decide)) hk32)) rfl (ct_197 rfl lk_8_366 (Or.inl rfl) sh_179 (Nat.le_of_ble_eq_true rfl)) (fun s37 hs37 => ?_)
        obtain ⟨hf38, hc39, hc40, hc41, hc42, he43, he44, he45⟩ := hs37
        have hF46 := Fr_tr (lo := 179) (hi := 191) hF29 hf38 (by omega)
        have hk47 : s37 (180) = σ (180) := hc39.trans hk30
        have hk48 : s37 (183) = σ (183) := hc42.trans hk31
        have hk49 : s37 (187) = σ (187) := (hf38 (187) (by omega)).trans hk33
        have hg50 : ∀ a, a ≠ 5 → a ≠ 7 → a ≠ 10 → ra_g s37 179 a = ra_g σ 179 a := fun a h5 h7 h10 => ((fun a h5 h7 h10 => he43 a h5) a h5 h7 h10).trans (hg34 a h5 h7 h10)
        refine ra_load rfl rfl rfl rfl ?_
        refine ra_load rfl rfl rfl rfl ?_
        refine ra_cIPp (sp_310 hx0 (WF_k hk47 hw) (sp_k hk47 rfl (hz26o (by omega)))) rfl (ct_310 rfl lk_8_378 (Or.inl rfl) sh_179 (Nat.le_of_ble_eq_true rfl)) (fun z52 hz52 hz52p => ?_)
        refine ra_store (L' := [_, _, _]) rfl rfl rfl (Nat.le_of_ble_eq_true rfl) rfl ?_
        refine ra_load rfl rfl rfl rfl ?_
        refine ra_load rfl rfl rfl rfl ?_
        refine ra_iconst rfl ?_
        refine ra_iconst rfl ?_
        refine ra_cV (sp_201 hz52 (by first | omega | (unfold ra_in at *; omega)) (by first | omega | (unfold ra_in at *; omega)) (by first | assumption | rfl | omega)) rfl (ct_201 rfl lk_8_78 (Or.inl rfl) sh_179 (Nat.le_of_ble_eq_true rfl)) (fun s53 hs53 => ?_)
        obtain ⟨hf54, he55, he56⟩ := hs53
        have hF57 := Fr_tr (lo := 179) (hi := 191) hF46 hf54 (by omega)
        have hk58 : s53 (183) = σ (183) := (hf54 (183) (by omega)).trans hk48
        have hk59 : s53 (187) = σ (187) := (hf54 (187) (by omega)).trans hk49
        have hg60 : ∀ a, a ≠ 5 → a ≠ 7 → a ≠ 10 → ra_g s53 179 a = ra_g σ 179 a := fun a h5 h7 h10 => (ra_gk (hf54 179 (by omega))).trans (hg50 a h5 h7 h10)
        refine ra_load rfl rfl rfl rfl ?_
        refine ra_load rfl rfl rfl rfl ?_
        refine ra_load rfl rfl rfl rfl ?_
        refine ra_load rfl rfl rfl rfl ?_
        refine ra_iconst rfl ?_
        refine ra_cTp (sp_200 hx0 (by first | omega | (unfold ra_in at *; omega)) (by first | assumption | rfl | omega)) rfl (ct_200 rfl lk_8_67 (Or.inl rfl) sh_179 (Nat.le_of_ble_eq_true rfl)) ?_
        have hr62 : ra_in (wq s53 x0 (2)) := (ra_in_wq _ _ _)
        refine ra_load rfl rfl rfl rfl ?_
        refine ra_load rfl rfl rfl rfl ?_
        refine ra_iconst rfl ?_
        refine ra_cTp (sp_200 hz52 (by first | omega | (unfold ra_in at *; omega)) (by first | assumption | rfl | omega)) rfl (ct_200 rfl lk_8_67 (Or.inl rfl) sh_179 (Nat.le_of_ble_eq_true rfl)) ?_
        have hr64 : ra_in (wq s53 z52 (2)) := (ra_in_wq _ _ _)
        refine ra_iadd rfl ?_
        refine ra_cV (s5_304 hx0 (by first | omega | (unfold ra_in at *; omega)) (by first | assumption | rfl | omega) (by first | assumption | rfl | omega)) rfl (ct_304 rfl lk_8_375 (Or.inl rfl) sh_179 (Nat.le_of_ble_eq_true rfl)) (fun s65 hs65 => ?_)
        obtain ⟨hf66, he67, he68⟩ := hs65
        have hF69 := Fr_tr (lo := 179) (hi := 191) hF57 hf66 (by omega)
        have hk70 : s65 (183) = σ (183) := (hf66 (183) (by omega)).trans hk58
        have hk71 : s65 (187) = σ (187) := (hf66 (187) (by omega)).trans hk59
        have hg72 : ∀ a, a ≠ 5 → a ≠ 7 → a ≠ 10 → ra_g s65 179 a = ra_g σ 179 a := fun a h5 h7 h10 => (ra_gk (hf66 179 (by omega))).trans (hg60 a h5 h7 h10)
        refine ra_load rfl rfl rfl rfl ?_
        exact ra_ireturn rfl rfl ⟨⟨_, hz52, (by exfalso; omega), rfl⟩, ⟨hF69, hk70, hk71, hg72, (by exfalso; omega), (PW_k (PW_k he44 (ra_gk (hf54 179 (by omega))) (hf54 184 (by omega))) (ra_gk (hf66 179 (by omega))) (hf66 184 (by omega)))⟩⟩
      · refine ra_iconst rfl ?_
        exact ra_ireturn rfl rfl ⟨⟨_, (by first | omega | (unfold ra_in at *; omega)), (x5roF (k := 2) (x5cif_y (fun q => hz26q.1 (by omega) q)) (by decide) (hz26q.2.1 (by omega)) hk30 (ho35 5 (by decide) (by decide)) hk32), rfl⟩, ⟨hF29, hk31, hk33, hg34, (WF_k hk30 hw), (PW_k hpw (ho35 5 (by decide) (by decide)) hk32)⟩⟩
  · refine ra_load rfl rfl rfl rfl ?_
    refine ra_load rfl rfl rfl rfl ?_
    refine ra_cQPp (s5_311 hx0 (WF_k hk4 hw) (sp_k hk4 rfl (hz11p.mp (by omega)))) rfl (ct_311 rfl lk_8_381 (Or.inl rfl) sh_179 (Nat.le_of_ble_eq_true rfl)) (fun z74 hz74 hz74p => ?_)
    have hz74o := hz74p.1
    have hz74q := hz74p.2
    clear hz74p
    refine ra_ifne rfl rfl (ra_in01 hz74) (fun h75 => ?_) (fun h75 => ?_)
    · refine ra_iconst rfl ?_
      refine ra_iconst rfl ?_
      refine ra_cT (s5_194 (Or.inl rfl) (by first | omega | (unfold ra_in at *; omega))) rfl (ct_194 rfl lk_8_303 (Or.inl rfl) sh_179 (Nat.le_of_ble_eq_true rfl)) (fun s76 hs76 => ?_)
      obtain ⟨hf77, he78, he79⟩ := hs76
      have hF80 := Fr_tr (lo := 179) (hi := 191) hF3 hf77 (by omega)
      have hk81 : s76 (180) = σ (180) := (hf77 (180) (by omega)).trans hk4
      have hk82 : s76 (183) = σ (183) := (hf77 (183) (by omega)).trans hk5
      have hk83 : s76 (184) = σ (184) := (hf77 (184) (by omega)).trans hk6
      have hk84 : s76 (187) = σ (187) := (hf77 (187) (by omega)).trans hk7
      have hg85 : ∀ a, a ≠ 5 → a ≠ 7 → a ≠ 10 → ra_g s76 179 a = ra_g σ 179 a := fun a h5 h7 h10 => ((fun a h7 h10 => he78 a h7) a h7 h10).trans (hg8 a h5 h7 h10)
      have ho86 : ∀ a, a ≠ 7 → a ≠ 10 → ra_g s76 179 a = ra_g σ 179 a := fun a h7 h10 => ((fun a h7 h10 => he78 a h7) a h7 h10).trans (ho9 a h7 h10)
      refine ra_ifne rfl rfl (by first | omega | (unfold ra_in at *; omega)) (fun h87 => ?_) (fun h87 => ?_)
      · exact absurd h87 (by decide)
      · refine ra_load rfl rfl rfl rfl ?_
        refine ra_load rfl rfl rfl rfl ?_
        refine ra_iconst rfl ?_
        refine ra_cQPs (s5_268 hx0 (by first | omega | (unfold ra_in at *; omega))) rfl (ct_268 rfl lk_8_318 (Or.inl rfl) sh_179 (Nat.le_of_ble_eq_true rfl)) (fun z89 s88 hz89 hz89p hs88 => ?_)
        rw [wq_k hk81] at hz89p
        have hz89o := hz89p.1
        have hz89q := hz89p.2
        clear hz89p
        obtain ⟨hf90, he91⟩ := hs88
        have hF92 := Fr_tr (lo := 179) (hi := 191) hF80 hf90 (by omega)
        have hk93 : s88 (180) = σ (180) := (hf90 (180) (by omega)).trans hk81
        have hk94 : s88 (183) = σ (183) := (hf90 (183) (by omega)).trans hk82
        have hk95 : s88 (184) = σ (184) := (hf90 (184) (by omega)).trans hk83
        have hk96 : s88 (187) = σ (187) := (hf90 (187) (by omega)).trans hk84
        have hg97 : ∀ a, a ≠ 5 → a ≠ 7 → a ≠ 10 → ra_g s88 179 a = ra_g σ 179 a := fun a h5 h7 h10 => ((fun a h7 h10 => he91 a h7) a h7 h10).trans (hg85 a h5 h7 h10)
        have ho98 : ∀ a, a ≠ 7 → a ≠ 10 → ra_g s88 179 a = ra_g σ 179 a := fun a h7 h10 => ((fun a h7 h10 => he91 a h7) a h7 h10).trans (ho86 a h7 h10)
        refine ra_ifeq rfl rfl (ra_in01 hz89) (fun h99 => ?_) (fun h99 => ?_)
        · refine ra_load rfl rfl rfl rfl ?_
          have hp := hz89o (by omega)
          have hst := hz11p.mpr hp
          have hq := WF_p hw hp.1 hp.2.1 hp.2.2
          have hc := cj_k hk4 (hz74o (by omega))
          have hb0 : s88 180 = σ 180 := hk93
          have hb4 : s88 184 = σ 184 := hk95
          have hb5 : ra_g s88 179 5 = ra_g σ 179 5 := ho98 5 (by decide) (by decide)
          refine ra_cV (s5_197 (WF_k hk93 hw) (PW_k hpw (ho98 5 (by decide) (by decide)) hk95)) rfl (ct_197 rfl lk_8_366 (Or.inl rfl) sh_179 (Nat.le_of_ble_eq_true rfl)) (fun s100 hs100 => ?_)
          obtain ⟨hf101, hc102, hc103, hc104, hc105, he106, he107, he108⟩ := hs100
          have hF109 := Fr_tr (lo := 179) (hi := 191) hF92 hf101 (by omega)
          have hk110 : s100 (180) = σ (180) := hc102.trans hk93
          have hk111 : s100 (183) = σ (183) := hc105.trans hk94
          have hk112 : s100 (187) = σ (187) := (hf101 (187) (by omega)).trans hk96
          have hg113 : ∀ a, a ≠ 5 → a ≠ 7 → a ≠ 10 → ra_g s100 179 a = ra_g σ 179 a := fun a h5 h7 h10 => ((fun a h5 h7 h10 => he106 a h5) a h5 h7 h10).trans (hg97 a h5 h7 h10)
          refine ra_load rfl rfl rfl rfl ?_
          refine ra_load rfl rfl rfl rfl ?_
          refine ra_cIPp (sp_310 hx0 (WF_k hk110 hw) (sp_k hk110 rfl (hz89o (by omega)))) rfl (ct_310 rfl lk_8_378 (Or.inl rfl) sh_179 (Nat.le_of_ble_eq_true rfl)) (fun z115 hz115 hz115p => ?_)
          have hj := nb_j (WF_k hk110 hw) ⟨hp.1, hp.2.1, (wq_k hk110).trans hp.2.2⟩ (cj_k hk110.symm hc) hz115p
          have hp2 := (⟨hp.1, hp.2.1, (wq_k hk110).trans hp.2.2⟩ : 0 ≤ x0 ∧ x0 < 8 ∧ wq s100 x0 0 = 1)
          refine ra_store (L' := [_, _, _]) rfl rfl rfl (Nat.le_of_ble_eq_true rfl) rfl ?_
          refine ra_load rfl rfl rfl rfl ?_
          refine ra_load rfl rfl rfl rfl ?_
          refine ra_iconst rfl ?_
          refine ra_iconst rfl ?_
          refine ra_cV (sp_201 hz115 (by first | omega | (unfold ra_in at *; omega)) (by first | omega | (unfold ra_in at *; omega)) (by first | assumption | rfl | omega)) rfl (ct_201 rfl lk_8_78 (Or.inl rfl) sh_179 (Nat.le_of_ble_eq_true rfl)) (fun s116 hs116 => ?_)
          obtain ⟨hf117, he118, he119⟩ := hs116
          have hF120 := Fr_tr (lo := 179) (hi := 191) hF109 hf117 (by omega)
          have hk121 : s116 (183) = σ (183) := (hf117 (183) (by omega)).trans hk111
          have hk122 : s116 (187) = σ (187) := (hf117 (187) (by omega)).trans hk112
          have hg123 : ∀ a, a ≠ 5 → a ≠ 7 → a ≠ 10 → ra_g s116 179 a = ra_g σ 179 a := fun a h5 h7 h10 => (ra_gk (hf117 179 (by omega))).trans (hg113 a h5 h7 h10)
          have hb := jn_b (WF_k hk110 hw) hp2 hj he119
          refine ra_load rfl rfl rfl rfl ?_
          refine ra_load rfl rfl rfl rfl ?_
          refine ra_load rfl rfl rfl rfl ?_
          refine ra_load rfl rfl rfl rfl ?_
          refine ra_iconst rfl ?_
          refine ra_cTp (sp_200 hx0 (by first | omega | (unfold ra_in at *; omega)) (by first | assumption | rfl | omega)) rfl (ct_200 rfl lk_8_67 (Or.inl rfl) sh_179 (Nat.le_of_ble_eq_true rfl)) ?_
          have hr125 : ra_in (wq s116 x0 (2)) := (ra_in_wq _ _ _)
          refine ra_load rfl rfl rfl rfl ?_
          refine ra_load rfl rfl rfl rfl ?_
          refine ra_iconst rfl ?_
          refine ra_cTp (sp_200 hz115 (by first | omega | (unfold ra_in at *; omega)) (by first | assumption | rfl | omega)) rfl (ct_200 rfl lk_8_67 (Or.inl rfl) sh_179 (Nat.le_of_ble_eq_true rfl)) ?_
          have hr127 : ra_in (wq s116 z115 (2)) := (ra_in_wq _ _ _)
          refine ra_iadd rfl ?_
          refine ra_cV (s5_304 hx0 (by first | omega | (unfold ra_in at *; omega)) (by first | assumption | rfl | omega) (by first | assumption | rfl | omega)) rfl (ct_304 rfl lk_8_375 (Or.inl rfl) sh_179 (Nat.le_of_ble_eq_true rfl)) (fun s128 hs128 => ?_)
          obtain ⟨hf129, he130, he131⟩ := hs128
          have hF132 := Fr_tr (lo := 179) (hi := 191) hF120 hf129 (by omega)
          have hk133 : s128 (183) = σ (183) := (hf129 (183) (by omega)).trans hk121
          have hk134 : s128 (187) = σ (187) := (hf129 (187) (by omega)).trans hk122
          have hg135 : ∀ a, a ≠ 5 → a ≠ 7 → a ≠ 10 → ra_g s128 179 a = ra_g σ 179 a := fun a h5 h7 h10 => (ra_gk (hf129 179 (by omega))).trans (hg123 a h5 h7 h10)
          refine ra_load rfl rfl rfl rfl ?_
          exact ra_ireturn rfl rfl ⟨⟨_, hz115, (x5roY ((x5cif_n (fun q => q hp)).trans (x5cif_n (fun q => q (by obtain ⟨q, hq⟩ := hz74q.mp (by omega); rw [x5cj2_k hk4] at hq; exact ⟨q, hq⟩)))) ((ra_gk (hf129 (179) (by omega))).trans ((ra_gk (hf117 (179) (by omega))).trans ((he106 7 (by decide)).trans ((hz89q.2.2 (by omega)).trans ((he79.2 rfl).trans hpv2))))) ((x5jn_v hw hp (by obtain ⟨q, hq⟩ := hz74q.mp (by omega); rw [x5cj2_k hk4] at hq; exact ⟨q, hq⟩) hk110 hz115p)).1 (by obtain ⟨ej, j0, j8⟩ := (x5jn_v hw hp (by obtain ⟨q, hq⟩ := hz74q.mp (by omega); rw [x5cj2_k hk4] at hq; exact ⟨q, hq⟩) hk110 hz115p); have hb9 := (x5sc_up (SC_tr (SC_tr (SC_tr (SC_tr SC_rf (SC_k (hs1 180 (by omega)))) (SC_k (hf77 180 (by omega)))) (SC_k (hf90 180 (by omega)))) (SC_k hc102)) he118 he119); have q9 := SC_tr (x5sc_u2 hb9) he131; have e2 : wq s116 x0 2 = wq σ x0 2 := ((he119 (24 + 8 * x0 + 2).toNat (by omega)).trans ((ra_gk hc102).trans ((ra_gk (hf90 (180) (by omega))).trans ((ra_gk (hf77 (180) (by omega))).trans (ra_gk (hs1 (180) (by omega))))))); have e3 : wq s116 z115 2 = wq σ z115 2 := ((he119 (24 + 8 * z115 + 2).toNat (by omega)).trans ((ra_gk hc102).trans ((ra_gk (hf90 (180) (by omega))).trans ((ra_gk (hf77 (180) (by omega))).trans (ra_gk (hs1 (180) (by omega))))))); (try simp only [e2, e3] at q9); rw [← ej]; exact q9) (x5psh_k (x5psh_s hb5 hb4 hb0 he108) ((ra_gk (hf129 179 (by omega))).trans (ra_gk (hf117 179 (by omega)))) ((hf129 184 (by omega)).trans (hf117 184 (by omega))))), rfl⟩, ⟨hF132, hk133, hk134, hg135, (jn_w (WF_k hk110 hw) hp2 hj he118 he119 he130), (PW_k (PW_k he107 (ra_gk (hf117 179 (by omega))) (hf117 184 (by omega))) (ra_gk (hf129 179 (by omega))) (hf129 184 (by omega)))⟩⟩
        · refine ra_iconst rfl ?_
          exact ra_ireturn rfl rfl ⟨⟨_, (by first | omega | (unfold ra_in at *; omega)), (x5roF (k := 2) (x5cif_y (fun q => hz89q.1 (by omega) q)) (by decide) (hz89q.2.1 (by omega)) hk93 (ho98 5 (by decide) (by decide)) hk95), rfl⟩, ⟨hF92, hk94, hk96, hg97, (WF_k hk93 hw), (PW_k hpw (ho98 5 (by decide) (by decide)) hk95)⟩⟩
    · refine ra_iconst rfl ?_
      refine ra_goto rfl rfl ?_
      refine ra_iconst rfl ?_
      refine ra_cT (s5_194 (Or.inr rfl) (by first | omega | (unfold ra_in at *; omega))) rfl (ct_194 rfl lk_8_303 (Or.inl rfl) sh_179 (Nat.le_of_ble_eq_true rfl)) (fun s136 hs136 => ?_)
      obtain ⟨hf137, he138, he139⟩ := hs136
      have hF140 := Fr_tr (lo := 179) (hi := 191) hF3 hf137 (by omega)
      have hk141 : s136 (180) = σ (180) := (hf137 (180) (by omega)).trans hk4
      have hk142 : s136 (183) = σ (183) := (hf137 (183) (by omega)).trans hk5
      have hk143 : s136 (184) = σ (184) := (hf137 (184) (by omega)).trans hk6
      have hk144 : s136 (187) = σ (187) := (hf137 (187) (by omega)).trans hk7
      have hg145 : ∀ a, a ≠ 5 → a ≠ 7 → a ≠ 10 → ra_g s136 179 a = ra_g σ 179 a := fun a h5 h7 h10 => ((fun a h7 h10 => he138 a h7) a h7 h10).trans (hg8 a h5 h7 h10)
      have ho146 : ∀ a, a ≠ 7 → a ≠ 10 → ra_g s136 179 a = ra_g σ 179 a := fun a h7 h10 => ((fun a h7 h10 => he138 a h7) a h7 h10).trans (ho9 a h7 h10)
      refine ra_ifne rfl rfl (by first | omega | (unfold ra_in at *; omega)) (fun h147 => ?_) (fun h147 => ?_)
      · refine ra_iconst rfl ?_
        exact ra_ireturn rfl rfl ⟨⟨_, (by first | omega | (unfold ra_in at *; omega)), (x5roF (k := 1) ((x5cif_n (fun q => q (show x5EX σ x0 from by exact hz11p.mp (by omega)))).trans (x5cif_y (by rintro ⟨q, hq⟩; rw [← x5cj2_k hk4] at hq; have q9 := hz74q.mpr ⟨q, hq⟩; clear hq; omega))) (by decide) (he139.1 rfl) hk141 (ho146 5 (by decide) (by decide)) hk143), rfl⟩, ⟨hF140, hk142, hk144, hg145, (WF_k hk141 hw), (PW_k hpw (ho146 5 (by decide) (by decide)) hk143)⟩⟩
      · exact absurd h147 (by decide)
theorem l5_313_13 {n : Nat} {f : Nat → Int32} {d : Nat}  {σ : ra_V} (hw : WF σ) (hpw : PW σ) : ∀ (nn : Nat) (v1 : Int) (v2 : Int) (s : ra_V) (hv1_0 : ra_in v1) (hv1_1 : v1 = x5shL v2.toNat σ) (hv2_0 : 0 ≤ v2) (hv2_1 : v2 ≤ 8) (hF : Fr (179) (191) σ s) (hk0 : s (183) = σ (183)) (hk1 : s (187) = σ (187)) (hws : WF s) (hps : PW s) (hsc : SC (x5shV v2.toNat σ) s) (hpsh : x5PSH σ s) (h7 : ra_g s 179 7 = 0) (ho3 : ∀ a, a ≠ 5 → a ≠ 7 → a ≠ 10 → ra_g s 179 a = ra_g σ 179 a) (hm : ((8 - v2 : Int)).toNat < nn), ra_P (g_Gs n f) g_sh 0 (d + 3) g_m_X8_shrinkAll 13 [some (.index (179)), some (ra_I v1), some (ra_I v2), none] [] s (fun r9 s => (∃ z, ra_in z ∧ (x5RO (0) (fun z => z = x5shL 8 σ) (x5shV 8 σ) σ s z) ∧ r9 = .inl (some (ra_I z))) ∧ Fr (179) (191) σ s ∧ s (183) = σ (183) ∧ s (187) = σ (187) ∧ (∀ a, a ≠ 5 → a ≠ 7 → a ≠ 10 → ra_g s 179 a = ra_g σ 179 a) ∧ WF s ∧ PW s) := by
  intro nn
  induction nn with
  | zero => intro v1 v2 s hv1_0 hv1_1 hv2_0 hv2_1 hF hk0 hk1 hws hps hsc hpsh h7 ho3 hm; exact absurd hm (Nat.not_lt_zero _)
  | succ nn ih =>
    intro v1 v2 s hv1_0 hv1_1 hv2_0 hv2_1 hF hk0 hk1 hws hps hsc hpsh h7 ho3 hm
    refine ra_load rfl rfl rfl rfl ?_
    refine ra_bipush rfl (by decide) ?_
    refine ra_icge rfl rfl (by first | omega | (unfold ra_in at *; omega)) (by first | omega | (unfold ra_in at *; omega)) (fun h24 => ?_) (fun h24 => ?_)
    · refine ra_load rfl rfl rfl rfl ?_
      exact ra_ireturn rfl rfl ⟨⟨_, (by first | omega | (unfold ra_in at *; omega)), (by obtain rfl : v2 = 8 := (by omega); exact x5roY rfl h7 hv1_1 hsc hpsh), rfl⟩, ⟨hF, hk0, hk1, ho3, hws, hps⟩⟩
    · refine ra_load rfl rfl rfl rfl ?_
      refine ra_load rfl rfl rfl rfl ?_
      refine ra_cIPp (s5_293 (by first | omega | (unfold ra_in at *; omega)) hws (by first | assumption | rfl | omega)) rfl (ct_293 rfl lk_8_358 (Or.inl rfl) sh_179 (Nat.le_of_ble_eq_true rfl)) (fun z26 hz26 hz26p => ?_)
      have hz26o := hz26p.1
      have hz26q := hz26p.2
      clear hz26p
      refine ra_store (L' := [_, _, _, _]) rfl rfl rfl (Nat.le_of_ble_eq_true rfl) rfl ?_
      refine ra_load rfl rfl rfl rfl ?_
      refine ra_load rfl rfl rfl rfl ?_
      refine ra_iconst rfl ?_
      refine ra_load rfl rfl rfl rfl ?_
      refine ra_load rfl rfl rfl rfl ?_
      refine ra_iconst rfl ?_
      refine ra_cTp (sp_200 (by first | omega | (unfold ra_in at *; omega)) (by first | omega | (unfold ra_in at *; omega)) (by first | assumption | rfl | omega)) rfl (ct_200 rfl lk_8_67 (Or.inl rfl) sh_179 (Nat.le_of_ble_eq_true rfl)) ?_
      have hr28 : ra_in (wq s v2 (2)) := (ra_in_wq _ _ _)
      have hb := ra_in_wq s v2 3
      have hb2 := ra_in_wq s v2 2
      unfold ra_in at hb hb2
      refine ra_load rfl rfl rfl rfl ?_
      refine ra_isub rfl ?_
      refine ra_cV (sp_201 (by first | omega | (unfold ra_in at *; omega)) (by first | omega | (unfold ra_in at *; omega)) (by first | omega | (unfold ra_in at *; omega)) (by first | assumption | rfl | omega)) rfl (ct_201 rfl lk_8_78 (Or.inl rfl) sh_179 (Nat.le_of_ble_eq_true rfl)) (fun s29 hs29 => ?_)
      obtain ⟨hf30, he31, he32⟩ := hs29
      have hF33 := Fr_tr (lo := 179) (hi := 191) hF hf30 (by omega)
      have hk34 : s29 (183) = σ (183) := (hf30 (183) (by omega)).trans hk0
      have hk35 : s29 (187) = σ (187) := (hf30 (187) (by omega)).trans hk1
      have hg36 : ∀ a, a ≠ 5 → a ≠ 7 → a ≠ 10 → ra_g s29 179 a = ra_g σ 179 a := fun a h5 h7 h10 => (ra_gk (hf30 179 (by omega))).trans (ho3 a h5 h7 h10)
      refine ra_load rfl rfl rfl rfl ?_
      refine ra_load rfl rfl rfl rfl ?_
      refine ra_iadd rfl ?_
      refine x5wr_ ?_
      refine ra_store (L' := [_, _, _, _]) rfl rfl rfl (Nat.le_of_ble_eq_true rfl) rfl ?_
      refine ra_iinc (L' := [_, _, _, _]) rfl rfl (Nat.le_of_ble_eq_true rfl) rfl ?_
      refine ra_goto rfl rfl ?_
      exact ra_weak (by repeat' constructor) (ih (ra_w (v1 + z26)) (v2 + 1) s29 (ra_w_in _) (by rw [show (v2 + 1).toNat = v2.toNat + 1 by omega]; rw [(x5sh_sc hsc (by omega) (by omega) hz26q he31 he32).2, ← hv1_1]) (by first | omega | (unfold ra_in at *; omega)) (by first | omega | (unfold ra_in at *; omega)) hF33 hk34 hk35 (shr_w hws ⟨by omega, by omega⟩ hz26o he31 he32) (PW_k hps (ra_gk (hf30 179 (by omega))) (hf30 184 (by omega))) (by rw [show (v2 + 1).toNat = v2.toNat + 1 by omega]; exact (x5sh_sc hsc (by omega) (by omega) hz26q he31 he32).1) (x5psh_k hpsh (ra_gk (hf30 179 (by omega))) (hf30 184 (by omega))) ((ra_gk (hf30 179 (by omega))).trans h7) hg36 (by first | omega | (unfold ra_in at *; omega)))
theorem s5_313 {n : Nat} {f : Nat → Int32} {d : Nat}  {σ : ra_V} (hw : WF σ) (hpw : PW σ) : ra_C (g_Gs n f) g_sh 0 (d + 4) 313 [.index (179)] σ (fun r9 s => (∃ z, ra_in z ∧ (x5RO (0) (fun z => z = x5shL 8 σ) (x5shV 8 σ) σ s z) ∧ r9 = .inl (some (ra_I z))) ∧ Fr (179) (191) σ s ∧ s (183) = σ (183) ∧ s (187) = σ (187) ∧ (∀ a, a ≠ 5 → a ≠ 7 → a ≠ 10 → ra_g s 179 a = ra_g σ 179 a) ∧ WF s ∧ PW s) := by
  refine ra_enter (nn := 3) mt_313 rfl (Nat.le_of_ble_eq_true rfl) rfl (fun h => absurd h (by decide +kernel)) ?_
  have hw0 := WF_a hw
  unfold WFa at hw0
  refine ra_load rfl rfl rfl rfl ?_
  refine ra_iconst rfl ?_
  refine ra_putI rfl lk_8_51 (Nat.zero_le _) sh_179 rfl rfl ?_
  refine ra_newU (by first | omega | (unfold ra_in at *; omega)) (fun s1 hs1 hp2 hp2o => ?_)
  have hp2_99 := hp2o 99 (by decide)
  have hF3 := Fr_tr (lo := 179) (hi := 191) Fr_rf hs1 (by omega)
  have hk4 : s1 (180) = σ (180) := (hs1 (180) (by omega))
  have hk5 : s1 (183) = σ (183) := (hs1 (183) (by omega))
  have hk6 : s1 (184) = σ (184) := (hs1 (184) (by omega))
  have hk7 : s1 (187) = σ (187) := (hs1 (187) (by omega))
  have hg8 : ∀ a, a ≠ 5 → a ≠ 7 → a ≠ 10 → ra_g s1 179 a = ra_g σ 179 a := fun a h5 h7 h10 => ((fun a h7 h10 => hp2o a h7) a h7 h10).trans ((fun _ _ _ _ => rfl) a h5 h7 h10)
  have ho9 : ∀ a, a ≠ 7 → a ≠ 10 → ra_g s1 179 a = ra_g σ 179 a := fun a h7 h10 => ((fun a h7 h10 => hp2o a h7) a h7 h10).trans ((fun _ _ _ => rfl) a h7 h10)
  refine ra_load rfl rfl rfl rfl ?_
  have hb0 : s1 180 = σ 180 := hk4
  have hb4 : s1 184 = σ 184 := hk6
  have hb5 : ra_g s1 179 5 = ra_g σ 179 5 := ho9 5 (by decide) (by decide)
  refine ra_cV (s5_197 (WF_k hk4 hw) (PW_k hpw (ho9 5 (by decide) (by decide)) hk6)) rfl (ct_197 rfl lk_8_366 (Or.inl rfl) sh_179 (Nat.le_of_ble_eq_true rfl)) (fun s10 hs10 => ?_)
  obtain ⟨hf11, hc12, hc13, hc14, hc15, he16, he17, he18⟩ := hs10
  have hF19 := Fr_tr (lo := 179) (hi := 191) hF3 hf11 (by omega)
  have hk20 : s10 (180) = σ (180) := hc12.trans hk4
  have hk21 : s10 (183) = σ (183) := hc15.trans hk5
  have hk22 : s10 (187) = σ (187) := (hf11 (187) (by omega)).trans hk7
  have hg23 : ∀ a, a ≠ 5 → a ≠ 7 → a ≠ 10 → ra_g s10 179 a = ra_g σ 179 a := fun a h5 h7 h10 => ((fun a h5 h7 h10 => he16 a h5) a h5 h7 h10).trans (hg8 a h5 h7 h10)
  refine ra_iconst rfl ?_
  refine ra_store (L' := [_, _, _, _]) rfl rfl rfl (Nat.le_of_ble_eq_true rfl) rfl ?_
  refine ra_iconst rfl ?_
  refine ra_store (L' := [_, _, _, _]) rfl rfl rfl (Nat.le_of_ble_eq_true rfl) rfl ?_
  exact ra_weak (by repeat' constructor) (l5_313_13 hw hpw _ (0) (0) s10 (by first | omega | (unfold ra_in at *; omega)) rfl (by first | omega | (unfold ra_in at *; omega)) (by first | omega | (unfold ra_in at *; omega)) hF19 hk21 hk22 (WF_k hk20 hw) he17 (SC_k hk20) (x5psh_s hb5 hb4 hb0 he18) ((he16 7 (by decide)).trans hp2) hg23 (Nat.lt_succ_self _))
end
