/-! T5: what the reference changes (printed by wip/gen/r6.py) -/
section
theorem s5_306 {n : Nat} {f : Nat → Int32} {d : Nat} {x0 : Int} {σ : ra_V} (hx0 : ra_in x0) (hw : WF σ) (hpw : PW σ) : ra_C (g_Gs n f) g_sh 0 (d + 6) 306 [.index (179), ra_I x0] σ (fun r9 s => (∃ z, ra_in z ∧ (x5RO (x5dcRz σ x0 ((wq σ x0 2 + ra_g σ 180 3 - 1).tdiv (ra_g σ 180 3) * ra_g σ 180 3)) (fun z => z = ((wq σ x0 2 + ra_g σ 180 3 - 1).tdiv (ra_g σ 180 3) * ra_g σ 180 3)) (x5up σ (24 + 8 * x0 + 2).toNat ((wq σ x0 2 + ra_g σ 180 3 - 1).tdiv (ra_g σ 180 3) * ra_g σ 180 3)) σ s z) ∧ r9 = .inl (some (ra_I z))) ∧ Fr (179) (191) σ s ∧ s (183) = σ (183) ∧ s (187) = σ (187) ∧ (∀ a, a ≠ 5 → a ≠ 7 → a ≠ 10 → ra_g s 179 a = ra_g σ 179 a) ∧ WF s ∧ PW s) := by
  refine ra_enter (nn := 1) mt_306 rfl (Nat.le_of_ble_eq_true rfl) rfl (fun h => absurd h (by decide +kernel)) ?_
  have hw0 := WF_a hw
  unfold WFa at hw0
  refine ra_load rfl rfl rfl rfl ?_
  refine ra_iconst rfl ?_
  refine ra_putI rfl lk_8_51 (Nat.zero_le _) sh_179 rfl rfl ?_
  refine ra_newU (by first | omega | (unfold ra_in at *; omega)) (fun s1 hs1 hp2 hp2o => ?_)
  have hp2_99 := hp2o 99 (by decide)
  have hF3 := Fr_tr (lo := 179) (hi := 191) Fr_rf hs1 (by omega)
  have hk4 : s1 (180) = σ (180) := (hs1 (180) (by omega))
  have hk5 : s1 (183) = σ (183) := (hs1 (183) (by omega))
  have hk6 : s1 (184) = σ (184) := (hs1 (184) (by omega))
  have hk7 : s1 (187) = σ (187) := (hs1 (187) (by omega))
  have hg8 : ∀ a, a ≠ 5 → a ≠ 7 → a ≠ 10 → ra_g s1 179 a = ra_g σ 179 a := fun a h5 h7 h10 => ((fun a h7 h10 => hp2o a h7) a h7 h10).trans ((fun _ _ _ _ => rfl) a h5 h7 h10)
  have ho9 : ∀ a, a ≠ 7 → a ≠ 10 → ra_g s1 179 a = ra_g σ 179 a := fun a h7 h10 => ((fun a h7 h10 => hp2o a h7) a h7 h10).trans ((fun _ _ _ => rfl) a h7 h10)
  refine ra_load rfl rfl rfl rfl ?_
  refine ra_load rfl rfl rfl rfl ?_
  refine ra_cQPp (sp_202 hx0) rfl (ct_202 rfl lk_8_313 (Or.inl rfl) sh_179 (Nat.le_of_ble_eq_true rfl)) (fun z11 hz11 hz11p => ?_)
  rw [wq_k hk4] at hz11p
  refine ra_ifeq rfl rfl (ra_in01 hz11) (fun h12 => ?_) (fun h12 => ?_)
  · refine ra_iconst rfl ?_
    refine ra_store (L' := [_, _, _]) rfl rfl rfl (Nat.le_of_ble_eq_true rfl) rfl ?_
    refine ra_load rfl rfl rfl rfl ?_
    refine ra_load rfl rfl rfl rfl ?_
    refine ra_load rfl rfl rfl rfl ?_
    refine ra_cQPp (sp_202 hx0) rfl (ct_202 rfl lk_8_313 (Or.inl rfl) sh_179 (Nat.le_of_ble_eq_true rfl)) (fun z14 hz14 hz14p => ?_)
    rw [wq_k hk4] at hz14p
    refine ra_ifeq rfl rfl (ra_in01 hz14) (fun h15 => ?_) (fun h15 => ?_)
    · refine ra_iconst rfl ?_
      refine ra_iconst rfl ?_
      refine ra_cT (s5_194 (Or.inl rfl) (by first | omega | (unfold ra_in at *; omega))) rfl (ct_194 rfl lk_8_303 (Or.inl rfl) sh_179 (Nat.le_of_ble_eq_true rfl)) (fun s16 hs16 => ?_)
      obtain ⟨hf17, he18, he19⟩ := hs16
      have hF20 := Fr_tr (lo := 179) (hi := 191) hF3 hf17 (by omega)
      have hk21 : s16 (180) = σ (180) := (hf17 (180) (by omega)).trans hk4
      have hk22 : s16 (183) = σ (183) := (hf17 (183) (by omega)).trans hk5
      have hk23 : s16 (184) = σ (184) := (hf17 (184) (by omega)).trans hk6
      have hk24 : s16 (187) = σ (187) := (hf17 (187) (by omega)).trans hk7
      have hg25 : ∀ a, a ≠ 5 → a ≠ 7 → a ≠ 10 → ra_g s16 179 a = ra_g σ 179 a := fun a h5 h7 h10 => ((fun a h7 h10 => he18 a h7) a h7 h10).trans (hg8 a h5 h7 h10)
      have ho26 : ∀ a, a ≠ 7 → a ≠ 10 → ra_g s16 179 a = ra_g σ 179 a := fun a h7 h10 => ((fun a h7 h10 => he18 a h7) a h7 h10).trans (ho9 a h7 h10)
      refine ra_ifne rfl rfl (by first | omega | (unfold ra_in at *; omega)) (fun h27 => ?_) (fun h27 => ?_)
      · exact absurd h27 (by decide)
      · refine ra_load rfl rfl rfl rfl ?_
        refine ra_load rfl rfl rfl rfl ?_
        refine ra_iconst rfl ?_
        refine ra_cQPs (s5_268 hx0 (by first | omega | (unfold ra_in at *; omega))) rfl (ct_268 rfl lk_8_318 (Or.inl rfl) sh_179 (Nat.le_of_ble_eq_true rfl)) (fun z29 s28 hz29 hz29p hs28 => ?_)
        rw [wq_k hk21] at hz29p
        have hz29o := hz29p.1
        have hz29q := hz29p.2
        clear hz29p
        obtain ⟨hf30, he31⟩ := hs28
        have hF32 := Fr_tr (lo := 179) (hi := 191) hF20 hf30 (by omega)
        have hk33 : s28 (180) = σ (180) := (hf30 (180) (by omega)).trans hk21
        have hk34 : s28 (183) = σ (183) := (hf30 (183) (by omega)).trans hk22
        have hk35 : s28 (184) = σ (184) := (hf30 (184) (by omega)).trans hk23
        have hk36 : s28 (187) = σ (187) := (hf30 (187) (by omega)).trans hk24
        have hg37 : ∀ a, a ≠ 5 → a ≠ 7 → a ≠ 10 → ra_g s28 179 a = ra_g σ 179 a := fun a h5 h7 h10 => ((fun a h7 h10 => he31 a h7) a h7 h10).trans (hg25 a h5 h7 h10)
        have ho38 : ∀ a, a ≠ 7 → a ≠ 10 → ra_g s28 179 a = ra_g σ 179 a := fun a h7 h10 => ((fun a h7 h10 => he31 a h7) a h7 h10).trans (ho26 a h7 h10)
        refine ra_ifeq rfl rfl (ra_in01 hz29) (fun h39 => ?_) (fun h39 => ?_)
        · refine ra_load rfl rfl rfl rfl ?_
          have hp := hz29o (by omega)
          have hst := hz14p.mpr hp
          have hq := WF_p hw hp.1 hp.2.1 hp.2.2
          have hb0 : s28 180 = σ 180 := hk33
          have hb4 : s28 184 = σ 184 := hk35
          have hb5 : ra_g s28 179 5 = ra_g σ 179 5 := ho38 5 (by decide) (by decide)
          refine ra_cV (s5_197 (WF_k hk33 hw) (PW_k hpw (ho38 5 (by decide) (by decide)) hk35)) rfl (ct_197 rfl lk_8_366 (Or.inl rfl) sh_179 (Nat.le_of_ble_eq_true rfl)) (fun s40 hs40 => ?_)
          obtain ⟨hf41, hc42, hc43, hc44, hc45, he46, he47, he48⟩ := hs40
          have hF49 := Fr_tr (lo := 179) (hi := 191) hF32 hf41 (by omega)
          have hk50 : s40 (180) = σ (180) := hc42.trans hk33
          have hk51 : s40 (183) = σ (183) := hc45.trans hk34
          have hk52 : s40 (187) = σ (187) := (hf41 (187) (by omega)).trans hk36
          have hg53 : ∀ a, a ≠ 5 → a ≠ 7 → a ≠ 10 → ra_g s40 179 a = ra_g σ 179 a := fun a h5 h7 h10 => ((fun a h5 h7 h10 => he46 a h5) a h5 h7 h10).trans (hg37 a h5 h7 h10)
          refine ra_load rfl rfl rfl rfl ?_
          refine ra_load rfl rfl rfl rfl ?_
          refine ra_load rfl rfl rfl rfl ?_
          refine ra_cV (s5_304 hx0 (by first | omega | (unfold ra_in at *; omega)) (by first | assumption | rfl | omega) (by simp only [wq_k hk50]; omega)) rfl (ct_304 rfl lk_8_375 (Or.inl rfl) sh_179 (Nat.le_of_ble_eq_true rfl)) (fun s54 hs54 => ?_)
          obtain ⟨hf55, he56, he57⟩ := hs54
          have hF58 := Fr_tr (lo := 179) (hi := 191) hF49 hf55 (by omega)
          have hk59 : s54 (183) = σ (183) := (hf55 (183) (by omega)).trans hk51
          have hk60 : s54 (187) = σ (187) := (hf55 (187) (by omega)).trans hk52
          have hg61 : ∀ a, a ≠ 5 → a ≠ 7 → a ≠ 10 → ra_g s54 179 a = ra_g σ 179 a := fun a h5 h7 h10 => (ra_gk (hf55 179 (by omega))).trans (hg53 a h5 h7 h10)
          refine ra_load rfl rfl rfl rfl ?_
          exact ra_ireturn rfl rfl ⟨⟨_, (by first | omega | (unfold ra_in at *; omega)), (by exfalso; omega), rfl⟩, ⟨hF58, hk59, hk60, hg61, (by exfalso; omega), (PW_k he47 (ra_gk (hf55 179 (by omega))) (hf55 184 (by omega)))⟩⟩
        · refine ra_iconst rfl ?_
          exact ra_ireturn rfl rfl ⟨⟨_, (by first | omega | (unfold ra_in at *; omega)), (x5roF (k := 2) (x5cif_y (fun q => hz29q.1 (by omega) q)) (by decide) (hz29q.2.1 (by omega)) hk33 (ho38 5 (by decide) (by decide)) hk35), rfl⟩, ⟨hF32, hk34, hk36, hg37, (WF_k hk33 hw), (PW_k hpw (ho38 5 (by decide) (by decide)) hk35)⟩⟩
    · refine ra_load rfl rfl rfl rfl ?_
      refine ra_load rfl rfl rfl rfl ?_
      refine ra_load rfl rfl rfl rfl ?_
      refine ra_cIPp (s6_302 hx0 (by first | omega | (unfold ra_in at *; omega)) (WF_k hk4 hw) (sp_k hk4 rfl (hz14p.mp (by omega)))) rfl (ct_302 rfl lk_8_372 (Or.inl rfl) sh_179 (Nat.le_of_ble_eq_true rfl)) (fun z63 hz63 hz63p => ?_)
      have hz63o := hz63p.1
      have hz63q := hz63p.2
      clear hz63p
      refine ra_ifeq rfl rfl hz63 (fun h64 => ?_) (fun h64 => ?_)
      · refine ra_iconst rfl ?_
        refine ra_iconst rfl ?_
        refine ra_cT (s5_194 (Or.inl rfl) (by first | omega | (unfold ra_in at *; omega))) rfl (ct_194 rfl lk_8_303 (Or.inl rfl) sh_179 (Nat.le_of_ble_eq_true rfl)) (fun s65 hs65 => ?_)
        obtain ⟨hf66, he67, he68⟩ := hs65
        have hF69 := Fr_tr (lo := 179) (hi := 191) hF3 hf66 (by omega)
        have hk70 : s65 (180) = σ (180) := (hf66 (180) (by omega)).trans hk4
        have hk71 : s65 (183) = σ (183) := (hf66 (183) (by omega)).trans hk5
        have hk72 : s65 (184) = σ (184) := (hf66 (184) (by omega)).trans hk6
        have hk73 : s65 (187) = σ (187) := (hf66 (187) (by omega)).trans hk7
        have hg74 : ∀ a, a ≠ 5 → a ≠ 7 → a ≠ 10 → ra_g s65 179 a = ra_g σ 179 a := fun a h5 h7 h10 => ((fun a h7 h10 => he67 a h7) a h7 h10).trans (hg8 a h5 h7 h10)
        have ho75 : ∀ a, a ≠ 7 → a ≠ 10 → ra_g s65 179 a = ra_g σ 179 a := fun a h7 h10 => ((fun a h7 h10 => he67 a h7) a h7 h10).trans (ho9 a h7 h10)
        refine ra_ifne rfl rfl (by first | omega | (unfold ra_in at *; omega)) (fun h76 => ?_) (fun h76 => ?_)
        · exact absurd h76 (by decide)
        · refine ra_load rfl rfl rfl rfl ?_
          refine ra_load rfl rfl rfl rfl ?_
          refine ra_iconst rfl ?_
          refine ra_cQPs (s5_268 hx0 (by first | omega | (unfold ra_in at *; omega))) rfl (ct_268 rfl lk_8_318 (Or.inl rfl) sh_179 (Nat.le_of_ble_eq_true rfl)) (fun z78 s77 hz78 hz78p hs77 => ?_)
          rw [wq_k hk70] at hz78p
          have hz78o := hz78p.1
          have hz78q := hz78p.2
          clear hz78p
          obtain ⟨hf79, he80⟩ := hs77
          have hF81 := Fr_tr (lo := 179) (hi := 191) hF69 hf79 (by omega)
          have hk82 : s77 (180) = σ (180) := (hf79 (180) (by omega)).trans hk70
          have hk83 : s77 (183) = σ (183) := (hf79 (183) (by omega)).trans hk71
          have hk84 : s77 (184) = σ (184) := (hf79 (184) (by omega)).trans hk72
          have hk85 : s77 (187) = σ (187) := (hf79 (187) (by omega)).trans hk73
          have hg86 : ∀ a, a ≠ 5 → a ≠ 7 → a ≠ 10 → ra_g s77 179 a = ra_g σ 179 a := fun a h5 h7 h10 => ((fun a h7 h10 => he80 a h7) a h7 h10).trans (hg74 a h5 h7 h10)
          have ho87 : ∀ a, a ≠ 7 → a ≠ 10 → ra_g s77 179 a = ra_g σ 179 a := fun a h7 h10 => ((fun a h7 h10 => he80 a h7) a h7 h10).trans (ho75 a h7 h10)
          refine ra_ifeq rfl rfl (ra_in01 hz78) (fun h88 => ?_) (fun h88 => ?_)
          · refine ra_load rfl rfl rfl rfl ?_
            have hp := hz78o (by omega)
            have hst := hz14p.mpr hp
            have hq := WF_p hw hp.1 hp.2.1 hp.2.2
            have hz0 := hz63o (by omega)
            have hz := szk_k hk4 hz0.2.2
            have hm1 := hz0.2.1
            rw [ra_gk hk4] at hm1
            have hz1 := hz.2.1
            unfold US at hz1
            have hb0 : s77 180 = σ 180 := hk82
            have hb4 : s77 184 = σ 184 := hk84
            have hb5 : ra_g s77 179 5 = ra_g σ 179 5 := ho87 5 (by decide) (by decide)
            refine ra_cV (s5_197 (WF_k hk82 hw) (PW_k hpw (ho87 5 (by decide) (by decide)) hk84)) rfl (ct_197 rfl lk_8_366 (Or.inl rfl) sh_179 (Nat.le_of_ble_eq_true rfl)) (fun s89 hs89 => ?_)
            obtain ⟨hf90, hc91, hc92, hc93, hc94, he95, he96, he97⟩ := hs89
            have hF98 := Fr_tr (lo := 179) (hi := 191) hF81 hf90 (by omega)
            have hk99 : s89 (180) = σ (180) := hc91.trans hk82
            have hk100 : s89 (183) = σ (183) := hc94.trans hk83
            have hk101 : s89 (187) = σ (187) := (hf90 (187) (by omega)).trans hk85
            have hg102 : ∀ a, a ≠ 5 → a ≠ 7 → a ≠ 10 → ra_g s89 179 a = ra_g σ 179 a := fun a h5 h7 h10 => ((fun a h5 h7 h10 => he95 a h5) a h5 h7 h10).trans (hg86 a h5 h7 h10)
            refine ra_load rfl rfl rfl rfl ?_
            refine ra_load rfl rfl rfl rfl ?_
            refine ra_load rfl rfl rfl rfl ?_
            refine ra_cV (s5_304 hx0 (by first | omega | (unfold ra_in at *; omega)) (by first | assumption | rfl | omega) (by simp only [wq_k hk99]; omega)) rfl (ct_304 rfl lk_8_375 (Or.inl rfl) sh_179 (Nat.le_of_ble_eq_true rfl)) (fun s103 hs103 => ?_)
            obtain ⟨hf104, he105, he106⟩ := hs103
            have hF107 := Fr_tr (lo := 179) (hi := 191) hF98 hf104 (by omega)
            have hk108 : s103 (183) = σ (183) := (hf104 (183) (by omega)).trans hk100
            have hk109 : s103 (187) = σ (187) := (hf104 (187) (by omega)).trans hk101
            have hg110 : ∀ a, a ≠ 5 → a ≠ 7 → a ≠ 10 → ra_g s103 179 a = ra_g σ 179 a := fun a h5 h7 h10 => (ra_gk (hf104 179 (by omega))).trans (hg102 a h5 h7 h10)
            refine ra_load rfl rfl rfl rfl ?_
            exact ra_ireturn rfl rfl ⟨⟨_, (by first | omega | (unfold ra_in at *; omega)), (by exfalso; omega), rfl⟩, ⟨hF107, hk108, hk109, hg110, (WF_rsz (WF_k hk99 hw) ⟨by omega, by omega, by rw [wq_k hk99]; omega⟩ (by rw [ra_gk hk99]; exact hm1) he105 (szk_k hk99.symm hz)), (PW_k he96 (ra_gk (hf104 179 (by omega))) (hf104 184 (by omega)))⟩⟩
          · refine ra_iconst rfl ?_
            exact ra_ireturn rfl rfl ⟨⟨_, (by first | omega | (unfold ra_in at *; omega)), (x5roF (k := 2) (x5cif_y (fun q => hz78q.1 (by omega) q)) (by decide) (hz78q.2.1 (by omega)) hk82 (ho87 5 (by decide) (by decide)) hk84), rfl⟩, ⟨hF81, hk83, hk85, hg86, (WF_k hk82 hw), (PW_k hpw (ho87 5 (by decide) (by decide)) hk84)⟩⟩
      · refine ra_iconst rfl ?_
        refine ra_goto rfl rfl ?_
        refine ra_iconst rfl ?_
        refine ra_cT (s5_194 (Or.inr rfl) (by first | omega | (unfold ra_in at *; omega))) rfl (ct_194 rfl lk_8_303 (Or.inl rfl) sh_179 (Nat.le_of_ble_eq_true rfl)) (fun s111 hs111 => ?_)
        obtain ⟨hf112, he113, he114⟩ := hs111
        have hF115 := Fr_tr (lo := 179) (hi := 191) hF3 hf112 (by omega)
        have hk116 : s111 (180) = σ (180) := (hf112 (180) (by omega)).trans hk4
        have hk117 : s111 (183) = σ (183) := (hf112 (183) (by omega)).trans hk5
        have hk118 : s111 (184) = σ (184) := (hf112 (184) (by omega)).trans hk6
        have hk119 : s111 (187) = σ (187) := (hf112 (187) (by omega)).trans hk7
        have hg120 : ∀ a, a ≠ 5 → a ≠ 7 → a ≠ 10 → ra_g s111 179 a = ra_g σ 179 a := fun a h5 h7 h10 => ((fun a h7 h10 => he113 a h7) a h7 h10).trans (hg8 a h5 h7 h10)
        have ho121 : ∀ a, a ≠ 7 → a ≠ 10 → ra_g s111 179 a = ra_g σ 179 a := fun a h7 h10 => ((fun a h7 h10 => he113 a h7) a h7 h10).trans (ho9 a h7 h10)
        refine ra_ifne rfl rfl (by first | omega | (unfold ra_in at *; omega)) (fun h122 => ?_) (fun h122 => ?_)
        · refine ra_iconst rfl ?_
          exact ra_ireturn rfl rfl ⟨⟨_, (by first | omega | (unfold ra_in at *; omega)), (by exfalso; omega), rfl⟩, ⟨hF115, hk117, hk119, hg120, (WF_k hk116 hw), (PW_k hpw (ho121 5 (by decide) (by decide)) hk118)⟩⟩
        · exact absurd h122 (by decide)
  · refine ra_load rfl rfl rfl rfl ?_
    refine ra_load rfl rfl rfl rfl ?_
    refine ra_iconst rfl ?_
    refine ra_cTp (sp_200 hx0 (by first | omega | (unfold ra_in at *; omega)) (by first | assumption | rfl | omega)) rfl (ct_200 rfl lk_8_67 (Or.inl rfl) sh_179 (Nat.le_of_ble_eq_true rfl)) ?_
    rw [wq_k hk4]
    have hr124 : ra_in (wq σ x0 (2)) := (ra_in_wq _ _ _)
    refine ra_load rfl rfl rfl rfl ?_
    refine ra_getR rfl lk_8_7 (Nat.zero_le _) sh_179 rfl ?_
    refine ra_iconst rfl ?_
    refine ra_ialoadJ (j := 3) rfl sh_180 rfl (by decide) rfl (by decide) ?_
    rw [ra_gk hk4]
    have hr125 : ra_in (ra_g σ (180) 3) := (ra_in_g _ _ _)
    have hp := hz11p.mp (by omega)
    have hq := WF_p hw hp.1 hp.2.1 hp.2.2
    have e1 : wq s1 x0 2 = wq σ x0 2 := wq_k hk4
    have e2 : ra_g s1 180 3 = ra_g σ 180 3 := ra_gk hk4
    refine ra_cTp (sp_207 hr124 hr125 (by first | assumption | rfl | omega)) rfl (ct_207 rfl lk_8_120 (Or.inl rfl) (Nat.le_of_ble_eq_true rfl)) ?_
    have hr127 : ra_in (((wq s1 x0 (2)) + (ra_g s1 (180) 3) - 1).tdiv (ra_g s1 (180) 3)) := (ra_in_tdiv (by unfold ra_in; omega) (by omega))
    refine ra_load rfl rfl rfl rfl ?_
    refine ra_getR rfl lk_8_7 (Nat.zero_le _) sh_179 rfl ?_
    refine ra_iconst rfl ?_
    refine ra_ialoadJ (j := 3) rfl sh_180 rfl (by decide) rfl (by decide) ?_
    rw [ra_gk hk4]
    have hr128 : ra_in (ra_g σ (180) 3) := (ra_in_g _ _ _)
    refine ra_imul rfl ?_
    refine ra_goto rfl rfl ?_
    refine ra_store (L' := [_, _, _]) rfl rfl rfl (Nat.le_of_ble_eq_true rfl) rfl ?_
    refine ra_load rfl rfl rfl rfl ?_
    refine ra_load rfl rfl rfl rfl ?_
    refine ra_load rfl rfl rfl rfl ?_
    refine ra_cQPp (sp_202 hx0) rfl (ct_202 rfl lk_8_313 (Or.inl rfl) sh_179 (Nat.le_of_ble_eq_true rfl)) (fun z130 hz130 hz130p => ?_)
    rw [wq_k hk4] at hz130p
    refine ra_ifeq rfl rfl (ra_in01 hz130) (fun h131 => ?_) (fun h131 => ?_)
    · refine ra_iconst rfl ?_
      refine ra_iconst rfl ?_
      refine ra_cT (s5_194 (Or.inl rfl) (by first | omega | (unfold ra_in at *; omega))) rfl (ct_194 rfl lk_8_303 (Or.inl rfl) sh_179 (Nat.le_of_ble_eq_true rfl)) (fun s132 hs132 => ?_)
      obtain ⟨hf133, he134, he135⟩ := hs132
      have hF136 := Fr_tr (lo := 179) (hi := 191) hF3 hf133 (by omega)
      have hk137 : s132 (180) = σ (180) := (hf133 (180) (by omega)).trans hk4
      have hk138 : s132 (183) = σ (183) := (hf133 (183) (by omega)).trans hk5
      have hk139 : s132 (184) = σ (184) := (hf133 (184) (by omega)).trans hk6
      have hk140 : s132 (187) = σ (187) := (hf133 (187) (by omega)).trans hk7
      have hg141 : ∀ a, a ≠ 5 → a ≠ 7 → a ≠ 10 → ra_g s132 179 a = ra_g σ 179 a := fun a h5 h7 h10 => ((fun a h7 h10 => he134 a h7) a h7 h10).trans (hg8 a h5 h7 h10)
      have ho142 : ∀ a, a ≠ 7 → a ≠ 10 → ra_g s132 179 a = ra_g σ 179 a := fun a h7 h10 => ((fun a h7 h10 => he134 a h7) a h7 h10).trans (ho9 a h7 h10)
      refine ra_ifne rfl rfl (by first | omega | (unfold ra_in at *; omega)) (fun h143 => ?_) (fun h143 => ?_)
      · exact absurd h143 (by decide)
      · refine ra_load rfl rfl rfl rfl ?_
        refine ra_load rfl rfl rfl rfl ?_
        refine ra_iconst rfl ?_
        refine ra_cQPs (s5_268 hx0 (by first | omega | (unfold ra_in at *; omega))) rfl (ct_268 rfl lk_8_318 (Or.inl rfl) sh_179 (Nat.le_of_ble_eq_true rfl)) (fun z145 s144 hz145 hz145p hs144 => ?_)
        rw [wq_k hk137] at hz145p
        have hz145o := hz145p.1
        have hz145q := hz145p.2
        clear hz145p
        obtain ⟨hf146, he147⟩ := hs144
        have hF148 := Fr_tr (lo := 179) (hi := 191) hF136 hf146 (by omega)
        have hk149 : s144 (180) = σ (180) := (hf146 (180) (by omega)).trans hk137
        have hk150 : s144 (183) = σ (183) := (hf146 (183) (by omega)).trans hk138
        have hk151 : s144 (184) = σ (184) := (hf146 (184) (by omega)).trans hk139
        have hk152 : s144 (187) = σ (187) := (hf146 (187) (by omega)).trans hk140
        have hg153 : ∀ a, a ≠ 5 → a ≠ 7 → a ≠ 10 → ra_g s144 179 a = ra_g σ 179 a := fun a h5 h7 h10 => ((fun a h7 h10 => he147 a h7) a h7 h10).trans (hg141 a h5 h7 h10)
        have ho154 : ∀ a, a ≠ 7 → a ≠ 10 → ra_g s144 179 a = ra_g σ 179 a := fun a h7 h10 => ((fun a h7 h10 => he147 a h7) a h7 h10).trans (ho142 a h7 h10)
        refine ra_ifeq rfl rfl (ra_in01 hz145) (fun h155 => ?_) (fun h155 => ?_)
        · refine ra_load rfl rfl rfl rfl ?_
          have hp := hz145o (by omega)
          have hst := hz130p.mpr hp
          have hq := WF_p hw hp.1 hp.2.1 hp.2.2
          have hb0 : s144 180 = σ 180 := hk149
          have hb4 : s144 184 = σ 184 := hk151
          have hb5 : ra_g s144 179 5 = ra_g σ 179 5 := ho154 5 (by decide) (by decide)
          refine ra_cV (s5_197 (WF_k hk149 hw) (PW_k hpw (ho154 5 (by decide) (by decide)) hk151)) rfl (ct_197 rfl lk_8_366 (Or.inl rfl) sh_179 (Nat.le_of_ble_eq_true rfl)) (fun s156 hs156 => ?_)
          obtain ⟨hf157, hc158, hc159, hc160, hc161, he162, he163, he164⟩ := hs156
          have hF165 := Fr_tr (lo := 179) (hi := 191) hF148 hf157 (by omega)
          have hk166 : s156 (180) = σ (180) := hc158.trans hk149
          have hk167 : s156 (183) = σ (183) := hc161.trans hk150
          have hk168 : s156 (187) = σ (187) := (hf157 (187) (by omega)).trans hk152
          have hg169 : ∀ a, a ≠ 5 → a ≠ 7 → a ≠ 10 → ra_g s156 179 a = ra_g σ 179 a := fun a h5 h7 h10 => ((fun a h5 h7 h10 => he162 a h5) a h5 h7 h10).trans (hg153 a h5 h7 h10)
          refine ra_load rfl rfl rfl rfl ?_
          refine ra_load rfl rfl rfl rfl ?_
          refine ra_load rfl rfl rfl rfl ?_
          refine ra_cV (s5_304 hx0 (x5rup_in (by omega)) (by first | assumption | rfl | omega) (by simp only [wq_k hk166]; omega)) rfl (ct_304 rfl lk_8_375 (Or.inl rfl) sh_179 (Nat.le_of_ble_eq_true rfl)) (fun s170 hs170 => ?_)
          obtain ⟨hf171, he172, he173⟩ := hs170
          have hF174 := Fr_tr (lo := 179) (hi := 191) hF165 hf171 (by omega)
          have hk175 : s170 (183) = σ (183) := (hf171 (183) (by omega)).trans hk167
          have hk176 : s170 (187) = σ (187) := (hf171 (187) (by omega)).trans hk168
          have hg177 : ∀ a, a ≠ 5 → a ≠ 7 → a ≠ 10 → ra_g s170 179 a = ra_g σ 179 a := fun a h5 h7 h10 => (ra_gk (hf171 179 (by omega))).trans (hg169 a h5 h7 h10)
          refine ra_load rfl rfl rfl rfl ?_
          exact ra_ireturn rfl rfl ⟨⟨_, (x5rup_in (by omega)), (by exfalso; omega), rfl⟩, ⟨hF174, hk175, hk176, hg177, (by exfalso; omega), (PW_k he163 (ra_gk (hf171 179 (by omega))) (hf171 184 (by omega)))⟩⟩
        · refine ra_iconst rfl ?_
          exact ra_ireturn rfl rfl ⟨⟨_, (by first | omega | (unfold ra_in at *; omega)), (x5roF (k := 2) (x5cif_y (fun q => hz145q.1 (by omega) q)) (by decide) (hz145q.2.1 (by omega)) hk149 (ho154 5 (by decide) (by decide)) hk151), rfl⟩, ⟨hF148, hk150, hk152, hg153, (WF_k hk149 hw), (PW_k hpw (ho154 5 (by decide) (by decide)) hk151)⟩⟩
    · refine ra_load rfl rfl rfl rfl ?_
      refine ra_load rfl rfl rfl rfl ?_
      refine ra_load rfl rfl rfl rfl ?_
      refine ra_cIPp (s6_302 hx0 (x5rup_in (by omega)) (WF_k hk4 hw) (sp_k hk4 rfl (hz130p.mp (by omega)))) rfl (ct_302 rfl lk_8_372 (Or.inl rfl) sh_179 (Nat.le_of_ble_eq_true rfl)) (fun z179 hz179 hz179p => ?_)
      have hz179o := hz179p.1
      have hz179q := hz179p.2
      clear hz179p
      refine ra_ifeq rfl rfl hz179 (fun h180 => ?_) (fun h180 => ?_)
      · refine ra_iconst rfl ?_
        refine ra_iconst rfl ?_
        refine ra_cT (s5_194 (Or.inl rfl) (by first | omega | (unfold ra_in at *; omega))) rfl (ct_194 rfl lk_8_303 (Or.inl rfl) sh_179 (Nat.le_of_ble_eq_true rfl)) (fun s181 hs181 => ?_)
        obtain ⟨hf182, he183, he184⟩ := hs181
        have hF185 := Fr_tr (lo := 179) (hi := 191) hF3 hf182 (by omega)
        have hk186 : s181 (180) = σ (180) := (hf182 (180) (by omega)).trans hk4
        have hk187 : s181 (183) = σ (183) := (hf182 (183) (by omega)).trans hk5
        have hk188 : s181 (184) = σ (184) := (hf182 (184) (by omega)).trans hk6
        have hk189 : s181 (187) = σ (187) := (hf182 (187) (by omega)).trans hk7
        have hg190 : ∀ a, a ≠ 5 → a ≠ 7 → a ≠ 10 → ra_g s181 179 a = ra_g σ 179 a := fun a h5 h7 h10 => ((fun a h7 h10 => he183 a h7) a h7 h10).trans (hg8 a h5 h7 h10)
        have ho191 : ∀ a, a ≠ 7 → a ≠ 10 → ra_g s181 179 a = ra_g σ 179 a := fun a h7 h10 => ((fun a h7 h10 => he183 a h7) a h7 h10).trans (ho9 a h7 h10)
        refine ra_ifne rfl rfl (by first | omega | (unfold ra_in at *; omega)) (fun h192 => ?_) (fun h192 => ?_)
        · exact absurd h192 (by decide)
        · refine ra_load rfl rfl rfl rfl ?_
          refine ra_load rfl rfl rfl rfl ?_
          refine ra_iconst rfl ?_
          refine ra_cQPs (s5_268 hx0 (by first | omega | (unfold ra_in at *; omega))) rfl (ct_268 rfl lk_8_318 (Or.inl rfl) sh_179 (Nat.le_of_ble_eq_true rfl)) (fun z194 s193 hz194 hz194p hs193 => ?_)
          rw [wq_k hk186] at hz194p
          have hz194o := hz194p.1
          have hz194q := hz194p.2
          clear hz194p
          obtain ⟨hf195, he196⟩ := hs193
          have hF197 := Fr_tr (lo := 179) (hi := 191) hF185 hf195 (by omega)
          have hk198 : s193 (180) = σ (180) := (hf195 (180) (by omega)).trans hk186
          have hk199 : s193 (183) = σ (183) := (hf195 (183) (by omega)).trans hk187
          have hk200 : s193 (184) = σ (184) := (hf195 (184) (by omega)).trans hk188
          have hk201 : s193 (187) = σ (187) := (hf195 (187) (by omega)).trans hk189
          have hg202 : ∀ a, a ≠ 5 → a ≠ 7 → a ≠ 10 → ra_g s193 179 a = ra_g σ 179 a := fun a h5 h7 h10 => ((fun a h7 h10 => he196 a h7) a h7 h10).trans (hg190 a h5 h7 h10)
          have ho203 : ∀ a, a ≠ 7 → a ≠ 10 → ra_g s193 179 a = ra_g σ 179 a := fun a h7 h10 => ((fun a h7 h10 => he196 a h7) a h7 h10).trans (ho191 a h7 h10)
          refine ra_ifeq rfl rfl (ra_in01 hz194) (fun h204 => ?_) (fun h204 => ?_)
          · refine ra_load rfl rfl rfl rfl ?_
            have hp := hz194o (by omega)
            have hst := hz130p.mpr hp
            have hq := WF_p hw hp.1 hp.2.1 hp.2.2
            have hz0 := hz179o (by omega)
            have hz := szk_k hk4 hz0.2.2
            have hm1 := hz0.2.1
            rw [ra_gk hk4] at hm1
            have hz1 := hz.2.1
            unfold US at hz1
            have hb0 : s193 180 = σ 180 := hk198
            have hb4 : s193 184 = σ 184 := hk200
            have hb5 : ra_g s193 179 5 = ra_g σ 179 5 := ho203 5 (by decide) (by decide)
            refine ra_cV (s5_197 (WF_k hk198 hw) (PW_k hpw (ho203 5 (by decide) (by decide)) hk200)) rfl (ct_197 rfl lk_8_366 (Or.inl rfl) sh_179 (Nat.le_of_ble_eq_true rfl)) (fun s205 hs205 => ?_)
            obtain ⟨hf206, hc207, hc208, hc209, hc210, he211, he212, he213⟩ := hs205
            have hF214 := Fr_tr (lo := 179) (hi := 191) hF197 hf206 (by omega)
            have hk215 : s205 (180) = σ (180) := hc207.trans hk198
            have hk216 : s205 (183) = σ (183) := hc210.trans hk199
            have hk217 : s205 (187) = σ (187) := (hf206 (187) (by omega)).trans hk201
            have hg218 : ∀ a, a ≠ 5 → a ≠ 7 → a ≠ 10 → ra_g s205 179 a = ra_g σ 179 a := fun a h5 h7 h10 => ((fun a h5 h7 h10 => he211 a h5) a h5 h7 h10).trans (hg202 a h5 h7 h10)
            refine ra_load rfl rfl rfl rfl ?_
            refine ra_load rfl rfl rfl rfl ?_
            refine ra_load rfl rfl rfl rfl ?_
            refine ra_cV (s5_304 hx0 (x5rup_in (by omega)) (by first | assumption | rfl | omega) (by simp only [wq_k hk215]; omega)) rfl (ct_304 rfl lk_8_375 (Or.inl rfl) sh_179 (Nat.le_of_ble_eq_true rfl)) (fun s219 hs219 => ?_)
            obtain ⟨hf220, he221, he222⟩ := hs219
            have hF223 := Fr_tr (lo := 179) (hi := 191) hF214 hf220 (by omega)
            have hk224 : s219 (183) = σ (183) := (hf220 (183) (by omega)).trans hk216
            have hk225 : s219 (187) = σ (187) := (hf220 (187) (by omega)).trans hk217
            have hg226 : ∀ a, a ≠ 5 → a ≠ 7 → a ≠ 10 → ra_g s219 179 a = ra_g σ 179 a := fun a h5 h7 h10 => (ra_gk (hf220 179 (by omega))).trans (hg218 a h5 h7 h10)
            refine ra_load rfl rfl rfl rfl ?_
            exact ra_ireturn rfl rfl ⟨⟨_, (x5rup_in (by omega)), (x5roY ((x5cif_n (fun q => q hp)).trans (x5cif_n (fun q => q (by have q9 := hz179q; rw [x5whyR_k hk4] at q9; (try simp only [e1, e2] at q9); omega)))) ((ra_gk (hf220 (179) (by omega))).trans ((he211 7 (by decide)).trans ((hz194q.2.2 (by omega)).trans ((he184.2 rfl).trans hp2)))) (by first | rfl | (simp only [e1, e2])) (by have q9 := x5scz_k hk215 he222; (try simp only [e1, e2] at q9); exact q9) (x5psh_k (x5psh_s hb5 hb4 hb0 he213) (ra_gk (hf220 179 (by omega))) (hf220 184 (by omega)))), rfl⟩, ⟨hF223, hk224, hk225, hg226, (WF_rsz (WF_k hk215 hw) ⟨by omega, by omega, by rw [wq_k hk215]; omega⟩ (by rw [ra_gk hk215]; exact hm1) he221 (szk_k hk215.symm hz)), (PW_k he212 (ra_gk (hf220 179 (by omega))) (hf220 184 (by omega)))⟩⟩
          · refine ra_iconst rfl ?_
            exact ra_ireturn rfl rfl ⟨⟨_, (by first | omega | (unfold ra_in at *; omega)), (x5roF (k := 2) (x5cif_y (fun q => hz194q.1 (by omega) q)) (by decide) (hz194q.2.1 (by omega)) hk198 (ho203 5 (by decide) (by decide)) hk200), rfl⟩, ⟨hF197, hk199, hk201, hg202, (WF_k hk198 hw), (PW_k hpw (ho203 5 (by decide) (by decide)) hk200)⟩⟩
      · refine ra_iconst rfl ?_
        refine ra_goto rfl rfl ?_
        refine ra_iconst rfl ?_
        refine ra_cT (s5_194 (Or.inr rfl) (by first | omega | (unfold ra_in at *; omega))) rfl (ct_194 rfl lk_8_303 (Or.inl rfl) sh_179 (Nat.le_of_ble_eq_true rfl)) (fun s227 hs227 => ?_)
        obtain ⟨hf228, he229, he230⟩ := hs227
        have hF231 := Fr_tr (lo := 179) (hi := 191) hF3 hf228 (by omega)
        have hk232 : s227 (180) = σ (180) := (hf228 (180) (by omega)).trans hk4
        have hk233 : s227 (183) = σ (183) := (hf228 (183) (by omega)).trans hk5
        have hk234 : s227 (184) = σ (184) := (hf228 (184) (by omega)).trans hk6
        have hk235 : s227 (187) = σ (187) := (hf228 (187) (by omega)).trans hk7
        have hg236 : ∀ a, a ≠ 5 → a ≠ 7 → a ≠ 10 → ra_g s227 179 a = ra_g σ 179 a := fun a h5 h7 h10 => ((fun a h7 h10 => he229 a h7) a h7 h10).trans (hg8 a h5 h7 h10)
        have ho237 : ∀ a, a ≠ 7 → a ≠ 10 → ra_g s227 179 a = ra_g σ 179 a := fun a h7 h10 => ((fun a h7 h10 => he229 a h7) a h7 h10).trans (ho9 a h7 h10)
        refine ra_ifne rfl rfl (by first | omega | (unfold ra_in at *; omega)) (fun h238 => ?_) (fun h238 => ?_)
        · refine ra_iconst rfl ?_
          exact ra_ireturn rfl rfl ⟨⟨_, (by first | omega | (unfold ra_in at *; omega)), (x5roF (k := 1) ((x5cif_n (fun q => q (show x5EX σ x0 from hz130p.mp (by omega)))).trans (x5cif_y (by have q9 := hz179q; rw [x5whyR_k hk4] at q9; (try simp only [e1, e2] at q9); omega))) (by decide) (he230.1 rfl) hk232 (ho237 5 (by decide) (by decide)) hk234), rfl⟩, ⟨hF231, hk233, hk235, hg236, (WF_k hk232 hw), (PW_k hpw (ho237 5 (by decide) (by decide)) hk234)⟩⟩
        · exact absurd h238 (by decide)
theorem s5_297 {n : Nat} {f : Nat → Int32} {d : Nat} {x0 : Int} {x1 : Int} {x2 : Int} {x3 : Int} {σ : ra_V} (hx0 : ra_in x0) (hx1 : ra_in x1) (hx2 : ra_in x2) (hx3 : ra_in x3) (hw : WF σ) (hpw : PW σ) : ra_C (g_Gs n f) g_sh 0 (d + 5) 297 [.index (179), ra_I x0, ra_I x1, ra_I x2, ra_I x3] σ (fun r9 s => (∃ z, ra_in z ∧ (x5RO (x5dcAdd σ x0 x1 x2 x3) (fun z => z = x5nfr σ) (x5mkV σ (x5nfr σ) x0 x1 x2 x3) σ s z) ∧ r9 = .inl (some (ra_I z))) ∧ Fr (179) (191) σ s ∧ s (183) = σ (183) ∧ s (187) = σ (187) ∧ (∀ a, a ≠ 5 → a ≠ 7 → a ≠ 10 → ra_g s 179 a = ra_g σ 179 a) ∧ WF s ∧ PW s) := by
  refine ra_enter (nn := 0) mt_297 rfl (Nat.le_of_ble_eq_true rfl) rfl (fun h => absurd h (by decide +kernel)) ?_
  have hw0 := WF_a hw
  unfold WFa at hw0
  refine ra_load rfl rfl rfl rfl ?_
  refine ra_iconst rfl ?_
  refine ra_putI rfl lk_8_51 (Nat.zero_le _) sh_179 rfl rfl ?_
  refine ra_newU (by first | omega | (unfold ra_in at *; omega)) (fun s1 hs1 hp2 hp2o => ?_)
  have hp2_99 := hp2o 99 (by decide)
  have hF3 := Fr_tr (lo := 179) (hi := 191) Fr_rf hs1 (by omega)
  have hk4 : s1 (180) = σ (180) := (hs1 (180) (by omega))
  have hk5 : s1 (183) = σ (183) := (hs1 (183) (by omega))
  have hk6 : s1 (184) = σ (184) := (hs1 (184) (by omega))
  have hk7 : s1 (187) = σ (187) := (hs1 (187) (by omega))
  have hg8 : ∀ a, a ≠ 5 → a ≠ 7 → a ≠ 10 → ra_g s1 179 a = ra_g σ 179 a := fun a h5 h7 h10 => ((fun a h7 h10 => hp2o a h7) a h7 h10).trans ((fun _ _ _ _ => rfl) a h5 h7 h10)
  have ho9 : ∀ a, a ≠ 7 → a ≠ 10 → ra_g s1 179 a = ra_g σ 179 a := fun a h7 h10 => ((fun a h7 h10 => hp2o a h7) a h7 h10).trans ((fun _ _ _ => rfl) a h7 h10)
  refine ra_load rfl rfl rfl rfl ?_
  refine ra_load rfl rfl rfl rfl ?_
  refine ra_load rfl rfl rfl rfl ?_
  refine ra_load rfl rfl rfl rfl ?_
  refine ra_cQPp (s5_296 hx2 hx3 hx1) rfl (ct_296 rfl lk_8_363 (Or.inl rfl) (Nat.le_of_ble_eq_true rfl)) (fun z11 hz11 hz11p => ?_)
  have hz11o := hz11p.1
  have hz11q := hz11p.2
  clear hz11p
  refine ra_ifeq rfl rfl (ra_in01 hz11) (fun h12 => ?_) (fun h12 => ?_)
  · refine ra_iconst rfl ?_
    refine ra_goto rfl rfl ?_
    refine ra_iconst rfl ?_
    refine ra_cT (s5_194 (Or.inr rfl) (by first | omega | (unfold ra_in at *; omega))) rfl (ct_194 rfl lk_8_303 (Or.inl rfl) sh_179 (Nat.le_of_ble_eq_true rfl)) (fun s13 hs13 => ?_)
    obtain ⟨hf14, he15, he16⟩ := hs13
    have hF17 := Fr_tr (lo := 179) (hi := 191) hF3 hf14 (by omega)
    have hk18 : s13 (180) = σ (180) := (hf14 (180) (by omega)).trans hk4
    have hk19 : s13 (183) = σ (183) := (hf14 (183) (by omega)).trans hk5
    have hk20 : s13 (184) = σ (184) := (hf14 (184) (by omega)).trans hk6
    have hk21 : s13 (187) = σ (187) := (hf14 (187) (by omega)).trans hk7
    have hg22 : ∀ a, a ≠ 5 → a ≠ 7 → a ≠ 10 → ra_g s13 179 a = ra_g σ 179 a := fun a h5 h7 h10 => ((fun a h7 h10 => he15 a h7) a h7 h10).trans (hg8 a h5 h7 h10)
    have ho23 : ∀ a, a ≠ 7 → a ≠ 10 → ra_g s13 179 a = ra_g σ 179 a := fun a h7 h10 => ((fun a h7 h10 => he15 a h7) a h7 h10).trans (ho9 a h7 h10)
    refine ra_ifne rfl rfl (by first | omega | (unfold ra_in at *; omega)) (fun h24 => ?_) (fun h24 => ?_)
    · refine ra_iconst rfl ?_
      exact ra_ireturn rfl rfl ⟨⟨_, (by first | omega | (unfold ra_in at *; omega)), (x5roF (k := 1) (x5cif_y (hz11q (by omega))) (by decide) (he16.1 rfl) hk18 (ho23 5 (by decide) (by decide)) hk20), rfl⟩, ⟨hF17, hk19, hk21, hg22, (WF_k hk18 hw), (PW_k hpw (ho23 5 (by decide) (by decide)) hk20)⟩⟩
    · exact absurd h24 (by decide)
  · refine ra_load rfl rfl rfl rfl ?_
    refine ra_load rfl rfl rfl rfl ?_
    refine ra_load rfl rfl rfl rfl ?_
    refine ra_cIPp (s6_216 hx0 hx1 (WFa_k hk4 (WF_a hw))) rfl (ct_216 rfl lk_8_349 (Or.inl rfl) sh_179 (Nat.le_of_ble_eq_true rfl)) (fun z26 hz26 hz26p => ?_)
    have hz26o := hz26p.1
    have hz26q := hz26p.2
    clear hz26p
    refine ra_ifeq rfl rfl hz26 (fun h27 => ?_) (fun h27 => ?_)
    · refine ra_iconst rfl ?_
      refine ra_iconst rfl ?_
      refine ra_cT (s5_194 (Or.inl rfl) (by first | omega | (unfold ra_in at *; omega))) rfl (ct_194 rfl lk_8_303 (Or.inl rfl) sh_179 (Nat.le_of_ble_eq_true rfl)) (fun s28 hs28 => ?_)
      obtain ⟨hf29, he30, he31⟩ := hs28
      have hF32 := Fr_tr (lo := 179) (hi := 191) hF3 hf29 (by omega)
      have hk33 : s28 (180) = σ (180) := (hf29 (180) (by omega)).trans hk4
      have hk34 : s28 (183) = σ (183) := (hf29 (183) (by omega)).trans hk5
      have hk35 : s28 (184) = σ (184) := (hf29 (184) (by omega)).trans hk6
      have hk36 : s28 (187) = σ (187) := (hf29 (187) (by omega)).trans hk7
      have hg37 : ∀ a, a ≠ 5 → a ≠ 7 → a ≠ 10 → ra_g s28 179 a = ra_g σ 179 a := fun a h5 h7 h10 => ((fun a h7 h10 => he30 a h7) a h7 h10).trans (hg8 a h5 h7 h10)
      have ho38 : ∀ a, a ≠ 7 → a ≠ 10 → ra_g s28 179 a = ra_g σ 179 a := fun a h7 h10 => ((fun a h7 h10 => he30 a h7) a h7 h10).trans (ho9 a h7 h10)
      refine ra_ifne rfl rfl (by first | omega | (unfold ra_in at *; omega)) (fun h39 => ?_) (fun h39 => ?_)
      · exact absurd h39 (by decide)
      · refine ra_load rfl rfl rfl rfl ?_
        refine ra_load rfl rfl rfl rfl ?_
        refine ra_cIPp (s6_203 (WF_k hk33 hw)) rfl (ct_203 rfl lk_8_298 (Or.inl rfl) sh_179 (Nat.le_of_ble_eq_true rfl)) (fun z41 hz41 hz41p => ?_)
        have hz41o := hz41p.1
        have hz41q := hz41p.2
        clear hz41p
        refine ra_bipush rfl (by decide) ?_
        refine ra_icne rfl rfl hz41 (by first | omega | (unfold ra_in at *; omega)) (fun h42 => ?_) (fun h42 => ?_)
        · refine ra_iconst rfl ?_
          refine ra_iconst rfl ?_
          refine ra_cT (s5_194 (Or.inl rfl) (by first | omega | (unfold ra_in at *; omega))) rfl (ct_194 rfl lk_8_303 (Or.inl rfl) sh_179 (Nat.le_of_ble_eq_true rfl)) (fun s43 hs43 => ?_)
          obtain ⟨hf44, he45, he46⟩ := hs43
          have hF47 := Fr_tr (lo := 179) (hi := 191) hF32 hf44 (by omega)
          have hk48 : s43 (180) = σ (180) := (hf44 (180) (by omega)).trans hk33
          have hk49 : s43 (183) = σ (183) := (hf44 (183) (by omega)).trans hk34
          have hk50 : s43 (184) = σ (184) := (hf44 (184) (by omega)).trans hk35
          have hk51 : s43 (187) = σ (187) := (hf44 (187) (by omega)).trans hk36
          have hg52 : ∀ a, a ≠ 5 → a ≠ 7 → a ≠ 10 → ra_g s43 179 a = ra_g σ 179 a := fun a h5 h7 h10 => ((fun a h7 h10 => he45 a h7) a h7 h10).trans (hg37 a h5 h7 h10)
          have ho53 : ∀ a, a ≠ 7 → a ≠ 10 → ra_g s43 179 a = ra_g σ 179 a := fun a h7 h10 => ((fun a h7 h10 => he45 a h7) a h7 h10).trans (ho38 a h7 h10)
          refine ra_ifeq rfl rfl (by first | omega | (unfold ra_in at *; omega)) (fun h54 => ?_) (fun h54 => ?_)
          · refine ra_load rfl rfl rfl rfl ?_
            have hu := wn_k hk4 (hz26o (by omega))
            have hx := exn_k hk33 (hz41o.2.2 (by omega))
            clear hz41o
            have hu1 := hu.1
            unfold US at hu1
            have ht := hz11o (by omega)
            have hb0 : s43 180 = σ 180 := hk48
            have hb4 : s43 184 = σ 184 := hk50
            have hb5 : ra_g s43 179 5 = ra_g σ 179 5 := ho53 5 (by decide) (by decide)
            refine ra_cV (s5_197 (WF_k hk48 hw) (PW_k hpw (ho53 5 (by decide) (by decide)) hk50)) rfl (ct_197 rfl lk_8_366 (Or.inl rfl) sh_179 (Nat.le_of_ble_eq_true rfl)) (fun s55 hs55 => ?_)
            obtain ⟨hf56, hc57, hc58, hc59, hc60, he61, he62, he63⟩ := hs55
            have hF64 := Fr_tr (lo := 179) (hi := 191) hF47 hf56 (by omega)
            have hk65 : s55 (180) = σ (180) := hc57.trans hk48
            have hk66 : s55 (183) = σ (183) := hc60.trans hk49
            have hk67 : s55 (187) = σ (187) := (hf56 (187) (by omega)).trans hk51
            have hg68 : ∀ a, a ≠ 5 → a ≠ 7 → a ≠ 10 → ra_g s55 179 a = ra_g σ 179 a := fun a h5 h7 h10 => ((fun a h5 h7 h10 => he61 a h5) a h5 h7 h10).trans (hg52 a h5 h7 h10)
            refine ra_load rfl rfl rfl rfl ?_
            refine ra_load rfl rfl rfl rfl ?_
            refine ra_load rfl rfl rfl rfl ?_
            refine ra_load rfl rfl rfl rfl ?_
            refine ra_load rfl rfl rfl rfl ?_
            refine ra_cIPs (s5_210 hx0 hx1 hx2 hx3 (exm_k hk65 hx) (by omega)) rfl (ct_210 rfl lk_8_250 (Or.inl rfl) sh_179 (Nat.le_of_ble_eq_true rfl)) (fun z70 s69 hz70 hz70p hs69 => ?_)
            have hz70o := hz70p.1
            have hz70q := hz70p.2
            clear hz70p
            have hF71 := Fr_tr (lo := 179) (hi := 191) hF64 hs69 (by omega)
            have hk72 : s69 (183) = σ (183) := (hs69 (183) (by omega)).trans hk66
            have hk73 : s69 (187) = σ (187) := (hs69 (187) (by omega)).trans hk67
            have hg74 : ∀ a, a ≠ 5 → a ≠ 7 → a ≠ 10 → ra_g s69 179 a = ra_g σ 179 a := fun a h5 h7 h10 => (ra_gk (hs69 179 (by omega))).trans (hg68 a h5 h7 h10)
            exact ra_ireturn rfl rfl ⟨⟨_, hz70, (x5roY ((x5cif_n (fun q => q (show x5TLD x2 x3 x1 from by have q9 := hz11o (by omega); unfold x5TLD; omega))).trans ((x5cif_n (fun q => q (by have q9 := hz26q; rw [x5why_k hk4] at q9; omega))).trans (x5cif_n (show ¬ x5FUL σ from by have q9 := hz41q; rw [ct_k hk33] at q9; unfold x5FUL; omega)))) ((ra_gk (hs69 (179) (by omega))).trans ((he61 7 (by decide)).trans ((he46.2 rfl).trans ((he31.2 rfl).trans hp2)))) (hz70q.1.trans (x5nfr_k hk65)) (by have q9 := hz70q.2; rw [x5nfr_k hk65, x5mk_k hk65] at q9; exact q9) (x5psh_k (x5psh_s hb5 hb4 hb0 he63) (ra_gk (hs69 179 (by omega))) (hs69 184 (by omega)))), rfl⟩, ⟨hF71, hk72, hk73, hg74, (WF_new (WF_k hk65 hw) hz70o (wn_k hk65.symm hu).1 (wn_k hk65.symm hu).2.1 (wn_k hk65.symm hu).2.2 ⟨by omega, by omega⟩), (PW_k he62 (ra_gk (hs69 179 (by omega))) (hs69 184 (by omega)))⟩⟩
          · exact absurd h54 (by decide)
        · refine ra_iconst rfl ?_
          refine ra_goto rfl rfl ?_
          refine ra_iconst rfl ?_
          refine ra_cT (s5_194 (Or.inr rfl) (by first | omega | (unfold ra_in at *; omega))) rfl (ct_194 rfl lk_8_303 (Or.inl rfl) sh_179 (Nat.le_of_ble_eq_true rfl)) (fun s75 hs75 => ?_)
          obtain ⟨hf76, he77, he78⟩ := hs75
          have hF79 := Fr_tr (lo := 179) (hi := 191) hF32 hf76 (by omega)
          have hk80 : s75 (180) = σ (180) := (hf76 (180) (by omega)).trans hk33
          have hk81 : s75 (183) = σ (183) := (hf76 (183) (by omega)).trans hk34
          have hk82 : s75 (184) = σ (184) := (hf76 (184) (by omega)).trans hk35
          have hk83 : s75 (187) = σ (187) := (hf76 (187) (by omega)).trans hk36
          have hg84 : ∀ a, a ≠ 5 → a ≠ 7 → a ≠ 10 → ra_g s75 179 a = ra_g σ 179 a := fun a h5 h7 h10 => ((fun a h7 h10 => he77 a h7) a h7 h10).trans (hg37 a h5 h7 h10)
          have ho85 : ∀ a, a ≠ 7 → a ≠ 10 → ra_g s75 179 a = ra_g σ 179 a := fun a h7 h10 => ((fun a h7 h10 => he77 a h7) a h7 h10).trans (ho38 a h7 h10)
          refine ra_ifeq rfl rfl (by first | omega | (unfold ra_in at *; omega)) (fun h86 => ?_) (fun h86 => ?_)
          · exact absurd h86 (by decide)
          · refine ra_iconst rfl ?_
            exact ra_ireturn rfl rfl ⟨⟨_, (by first | omega | (unfold ra_in at *; omega)), (x5roF (k := 2) ((x5cif_n (fun q => q (show x5TLD x2 x3 x1 from by clear hz41o; have q9 := hz11o (by omega); unfold x5TLD; omega))).trans ((x5cif_n (fun q => q (by clear hz41o; have q9 := hz26q; rw [x5why_k hk4] at q9; omega))).trans (x5cif_y (show x5FUL σ from by clear hz41o; have q9 := hz41q; rw [ct_k hk33] at q9; unfold x5FUL; omega)))) (by decide) (he78.1 rfl) hk80 (ho85 5 (by decide) (by decide)) hk82), rfl⟩, ⟨hF79, hk81, hk83, hg84, (WF_k hk80 hw), (PW_k hpw (ho85 5 (by decide) (by decide)) hk82)⟩⟩
    · refine ra_iconst rfl ?_
      refine ra_goto rfl rfl ?_
      refine ra_iconst rfl ?_
      refine ra_cT (s5_194 (Or.inr rfl) (by first | omega | (unfold ra_in at *; omega))) rfl (ct_194 rfl lk_8_303 (Or.inl rfl) sh_179 (Nat.le_of_ble_eq_true rfl)) (fun s87 hs87 => ?_)
      obtain ⟨hf88, he89, he90⟩ := hs87
      have hF91 := Fr_tr (lo := 179) (hi := 191) hF3 hf88 (by omega)
      have hk92 : s87 (180) = σ (180) := (hf88 (180) (by omega)).trans hk4
      have hk93 : s87 (183) = σ (183) := (hf88 (183) (by omega)).trans hk5
      have hk94 : s87 (184) = σ (184) := (hf88 (184) (by omega)).trans hk6
      have hk95 : s87 (187) = σ (187) := (hf88 (187) (by omega)).trans hk7
      have hg96 : ∀ a, a ≠ 5 → a ≠ 7 → a ≠ 10 → ra_g s87 179 a = ra_g σ 179 a := fun a h5 h7 h10 => ((fun a h7 h10 => he89 a h7) a h7 h10).trans (hg8 a h5 h7 h10)
      have ho97 : ∀ a, a ≠ 7 → a ≠ 10 → ra_g s87 179 a = ra_g σ 179 a := fun a h7 h10 => ((fun a h7 h10 => he89 a h7) a h7 h10).trans (ho9 a h7 h10)
      refine ra_ifne rfl rfl (by first | omega | (unfold ra_in at *; omega)) (fun h98 => ?_) (fun h98 => ?_)
      · refine ra_iconst rfl ?_
        exact ra_ireturn rfl rfl ⟨⟨_, (by first | omega | (unfold ra_in at *; omega)), (x5roF (k := 1) ((x5cif_n (fun q => q (show x5TLD x2 x3 x1 from by have q9 := hz11o (by omega); unfold x5TLD; omega))).trans (x5cif_y (by have q9 := hz26q; rw [x5why_k hk4] at q9; omega))) (by decide) (he90.1 rfl) hk92 (ho97 5 (by decide) (by decide)) hk94), rfl⟩, ⟨hF91, hk93, hk95, hg96, (WF_k hk92 hw), (PW_k hpw (ho97 5 (by decide) (by decide)) hk94)⟩⟩
      · exact absurd h98 (by decide)
theorem l5_314_13 {n : Nat} {f : Nat → Int32} {d : Nat}  {σ : ra_V} (hw : WF σ) (hpw : PW σ) : ∀ (nn : Nat) (v1 : Int) (v2 : Int) (s : ra_V) (hv1_0 : 0 ≤ v1) (hv1_1 : v1 ≤ v2) (hv2_0 : 0 ≤ v2) (hv2_1 : v2 ≤ 600) (hF : Fr (179) (191) σ s) (hk0 : s (183) = σ (183)) (hk1 : s (187) = σ (187)) (hws : WF s) (hps : PW s) (hsc : SC σ s) (hpsh : x5PSH σ s) (h7 : ra_g s 179 7 = 0) (ho3 : ∀ a, a ≠ 5 → a ≠ 7 → a ≠ 10 → ra_g s 179 a = ra_g σ 179 a) (hm : ((600 - v2 : Int)).toNat < nn), ra_P (g_Gs n f) g_sh 0 (d + 6) g_m_X8_wipe 13 [some (.index (179)), some (ra_I v1), some (ra_I v2)] [] s (fun r9 s => (∃ z, ra_in z ∧ (x5RO (0) (fun _ => True) (σ) σ s z) ∧ r9 = .inl (some (ra_I z))) ∧ Fr (179) (191) σ s ∧ s (183) = σ (183) ∧ s (187) = σ (187) ∧ (∀ a, a ≠ 5 → a ≠ 7 → a ≠ 10 → ra_g s 179 a = ra_g σ 179 a) ∧ WF s ∧ PW s) := by
  intro nn
  induction nn with
  | zero => intro v1 v2 s hv1_0 hv1_1 hv2_0 hv2_1 hF hk0 hk1 hws hps hsc hpsh h7 ho3 hm; exact absurd hm (Nat.not_lt_zero _)
  | succ nn ih =>
    intro v1 v2 s hv1_0 hv1_1 hv2_0 hv2_1 hF hk0 hk1 hws hps hsc hpsh h7 ho3 hm
    have hw1 := WF_a hws
    unfold WFa at hw1
    refine ra_load rfl rfl rfl rfl ?_
    refine ra_load rfl rfl rfl rfl ?_
    refine ra_getR rfl lk_8_7 (Nat.zero_le _) sh_179 rfl ?_
    refine ra_iconst rfl ?_
    refine ra_ialoadJ (j := 0) rfl sh_180 rfl (by decide) rfl (by decide) ?_
    have hr24 : ra_in (ra_g s (180) 0) := (ra_in_g _ _ _)
    refine ra_icge rfl rfl (by first | omega | (unfold ra_in at *; omega)) hr24 (fun h25 => ?_) (fun h25 => ?_)
    · refine ra_load rfl rfl rfl rfl ?_
      exact ra_ireturn rfl rfl ⟨⟨_, (by first | omega | (unfold ra_in at *; omega)), (x5roY rfl h7 trivial hsc hpsh), rfl⟩, ⟨hF, hk0, hk1, ho3, hws, hps⟩⟩
    · refine ra_load rfl rfl rfl rfl ?_
      refine ra_getR rfl lk_8_7 (Nat.zero_le _) sh_179 rfl ?_
      refine ra_bipush rfl (by decide) ?_
      refine ra_load rfl rfl rfl rfl ?_
      refine ra_iadd rfl ?_
      refine ra_iaload rfl sh_180 rfl (by decide) (by first | omega | (unfold ra_in at *; omega)) (by first | omega | (unfold ra_in at *; omega)) ?_
      have hr26 : ra_in (ra_g s (180) ((88) + v2).toNat) := (ra_in_g _ _ _)
      refine ra_ifeq rfl rfl hr26 (fun h27 => ?_) (fun h27 => ?_)
      · refine ra_iinc (L' := [_, _, _]) rfl rfl (Nat.le_of_ble_eq_true rfl) rfl ?_
        refine ra_goto rfl rfl ?_
        exact ra_weak (by repeat' constructor) (ih v1 (v2 + 1) s (by first | omega | (unfold ra_in at *; omega)) (by first | omega | (unfold ra_in at *; omega)) (by first | omega | (unfold ra_in at *; omega)) (by first | omega | (unfold ra_in at *; omega)) hF hk0 hk1 hws hps (SC_tr hsc SC_rf) (x5psh_k hpsh rfl rfl) (rfl.trans h7) ho3 (by first | omega | (unfold ra_in at *; omega)))
      · refine ra_load rfl rfl rfl rfl ?_
        refine ra_load rfl rfl rfl rfl ?_
        refine ra_cIp (sp_272 (by first | omega | (unfold ra_in at *; omega)) hws) rfl (ct_272 rfl lk_8_327 (Or.inl rfl) sh_179 (Nat.le_of_ble_eq_true rfl)) (fun z29 hz29 => ?_)
        refine ra_iconst rfl ?_
        refine ra_iceq rfl rfl hz29 (by first | omega | (unfold ra_in at *; omega)) (fun h30 => ?_) (fun h30 => ?_)
        · refine ra_load rfl rfl rfl rfl ?_
          refine ra_getR rfl lk_8_7 (Nat.zero_le _) sh_179 rfl ?_
          refine ra_bipush rfl (by decide) ?_
          refine ra_load rfl rfl rfl rfl ?_
          refine ra_iadd rfl ?_
          refine ra_iconst rfl ?_
          refine ra_iastore rfl sh_180 rfl (by decide) (by first | omega | (unfold ra_in at *; omega)) (by first | omega | (unfold ra_in at *; omega)) ?_
          refine ra_newR (by first | omega | (unfold ra_in at *; omega)) (fun s31 hs31 hs31v hs31o => ?_)
          have hF32 := Fr_tr (lo := 179) (hi := 191) hF hs31 (by omega)
          have hk33 : s31 (183) = σ (183) := (hs31 (183) (by omega)).trans hk0
          have hk34 : s31 (187) = σ (187) := (hs31 (187) (by omega)).trans hk1
          have hg35 : ∀ a, a ≠ 5 → a ≠ 7 → a ≠ 10 → ra_g s31 179 a = ra_g σ 179 a := fun a h5 h7 h10 => (ra_gk (hs31 179 (by omega))).trans (ho3 a h5 h7 h10)
          refine ra_iinc (L' := [_, _, _]) rfl rfl (Nat.le_of_ble_eq_true rfl) rfl ?_
          refine ra_iinc (L' := [_, _, _]) rfl rfl (Nat.le_of_ble_eq_true rfl) rfl ?_
          refine ra_goto rfl rfl ?_
          exact ra_weak (by repeat' constructor) (ih (v1 + 1) (v2 + 1) s31 (by first | omega | (unfold ra_in at *; omega)) (by first | omega | (unfold ra_in at *; omega)) (by first | omega | (unfold ra_in at *; omega)) (by first | omega | (unfold ra_in at *; omega)) hF32 hk33 hk34 (WF_sc (fun a ha => hs31o a (by omega)) hws) (PW_k hps (ra_gk (hs31 179 (by omega))) (hs31 184 (by omega))) (SC_tr hsc (fun a ha => hs31o a (by omega))) (x5psh_k hpsh (ra_gk (hs31 179 (by omega))) (hs31 184 (by omega))) ((ra_gk (hs31 179 (by omega))).trans h7) hg35 (by first | omega | (unfold ra_in at *; omega)))
        · refine ra_goto rfl rfl ?_
          refine ra_iinc (L' := [_, _, _]) rfl rfl (Nat.le_of_ble_eq_true rfl) rfl ?_
          refine ra_goto rfl rfl ?_
          exact ra_weak (by repeat' constructor) (ih v1 (v2 + 1) s (by first | omega | (unfold ra_in at *; omega)) (by first | omega | (unfold ra_in at *; omega)) (by first | omega | (unfold ra_in at *; omega)) (by first | omega | (unfold ra_in at *; omega)) hF hk0 hk1 hws hps (SC_tr hsc SC_rf) (x5psh_k hpsh rfl rfl) (rfl.trans h7) ho3 (by first | omega | (unfold ra_in at *; omega)))
theorem s5_314 {n : Nat} {f : Nat → Int32} {d : Nat}  {σ : ra_V} (hw : WF σ) (hpw : PW σ) : ra_C (g_Gs n f) g_sh 0 (d + 7) 314 [.index (179)] σ (fun r9 s => (∃ z, ra_in z ∧ (x5RO (0) (fun _ => True) (σ) σ s z) ∧ r9 = .inl (some (ra_I z))) ∧ Fr (179) (191) σ s ∧ s (183) = σ (183) ∧ s (187) = σ (187) ∧ (∀ a, a ≠ 5 → a ≠ 7 → a ≠ 10 → ra_g s 179 a = ra_g σ 179 a) ∧ WF s ∧ PW s) := by
  refine ra_enter (nn := 2) mt_314 rfl (Nat.le_of_ble_eq_true rfl) rfl (fun h => absurd h (by decide +kernel)) ?_
  have hw0 := WF_a hw
  unfold WFa at hw0
  refine ra_load rfl rfl rfl rfl ?_
  refine ra_iconst rfl ?_
  refine ra_putI rfl lk_8_51 (Nat.zero_le _) sh_179 rfl rfl ?_
  refine ra_newU (by first | omega | (unfold ra_in at *; omega)) (fun s1 hs1 hp2 hp2o => ?_)
  have hp2_99 := hp2o 99 (by decide)
  have hF3 := Fr_tr (lo := 179) (hi := 191) Fr_rf hs1 (by omega)
  have hk4 : s1 (180) = σ (180) := (hs1 (180) (by omega))
  have hk5 : s1 (183) = σ (183) := (hs1 (183) (by omega))
  have hk6 : s1 (184) = σ (184) := (hs1 (184) (by omega))
  have hk7 : s1 (187) = σ (187) := (hs1 (187) (by omega))
  have hg8 : ∀ a, a ≠ 5 → a ≠ 7 → a ≠ 10 → ra_g s1 179 a = ra_g σ 179 a := fun a h5 h7 h10 => ((fun a h7 h10 => hp2o a h7) a h7 h10).trans ((fun _ _ _ _ => rfl) a h5 h7 h10)
  have ho9 : ∀ a, a ≠ 7 → a ≠ 10 → ra_g s1 179 a = ra_g σ 179 a := fun a h7 h10 => ((fun a h7 h10 => hp2o a h7) a h7 h10).trans ((fun _ _ _ => rfl) a h7 h10)
  refine ra_load rfl rfl rfl rfl ?_
  have hb0 : s1 180 = σ 180 := hk4
  have hb4 : s1 184 = σ 184 := hk6
  have hb5 : ra_g s1 179 5 = ra_g σ 179 5 := ho9 5 (by decide) (by decide)
  refine ra_cV (s5_197 (WF_k hk4 hw) (PW_k hpw (ho9 5 (by decide) (by decide)) hk6)) rfl (ct_197 rfl lk_8_366 (Or.inl rfl) sh_179 (Nat.le_of_ble_eq_true rfl)) (fun s10 hs10 => ?_)
  obtain ⟨hf11, hc12, hc13, hc14, hc15, he16, he17, he18⟩ := hs10
  have hF19 := Fr_tr (lo := 179) (hi := 191) hF3 hf11 (by omega)
  have hk20 : s10 (180) = σ (180) := hc12.trans hk4
  have hk21 : s10 (183) = σ (183) := hc15.trans hk5
  have hk22 : s10 (187) = σ (187) := (hf11 (187) (by omega)).trans hk7
  have hg23 : ∀ a, a ≠ 5 → a ≠ 7 → a ≠ 10 → ra_g s10 179 a = ra_g σ 179 a := fun a h5 h7 h10 => ((fun a h5 h7 h10 => he16 a h5) a h5 h7 h10).trans (hg8 a h5 h7 h10)
  refine ra_iconst rfl ?_
  refine ra_store (L' := [_, _, _]) rfl rfl rfl (Nat.le_of_ble_eq_true rfl) rfl ?_
  refine ra_iconst rfl ?_
  refine ra_store (L' := [_, _, _]) rfl rfl rfl (Nat.le_of_ble_eq_true rfl) rfl ?_
  exact ra_weak (by repeat' constructor) (l5_314_13 hw hpw _ (0) (0) s10 (by first | omega | (unfold ra_in at *; omega)) (by first | omega | (unfold ra_in at *; omega)) (by first | omega | (unfold ra_in at *; omega)) (by first | omega | (unfold ra_in at *; omega)) hF19 hk21 hk22 (WF_k hk20 hw) he17 (SC_k hk20) (x5psh_s hb5 hb4 hb0 he18) ((he16 7 (by decide)).trans hp2) hg23 (Nat.lt_succ_self _))
theorem s5_318 {n : Nat} {f : Nat → Int32} {d : Nat} {x0 : Int} {x1 : Int} {σ : ra_V} (hx0 : ra_in x0) (hx1 : ra_in x1) (hw : WF σ) (hpw : PW σ) : ra_C (g_Gs n f) g_sh 0 (d + 5) 318 [.index (179), ra_I x0, ra_I x1] σ (fun r9 s => (∃ z, ra_in z ∧ (x5RO (x5dcBg σ x0 x1) (fun _ => True) (x5bgV σ x0 x1) σ s z) ∧ r9 = .inl (some (ra_I z))) ∧ Fr (179) (191) σ s ∧ s (183) = σ (183) ∧ s (187) = σ (187) ∧ (∀ a, a ≠ 5 → a ≠ 7 → a ≠ 10 → ra_g s 179 a = ra_g σ 179 a) ∧ WF s ∧ PW s) := by
  refine ra_enter (nn := 0) mt_318 rfl (Nat.le_of_ble_eq_true rfl) rfl (fun h => absurd h (by decide +kernel)) ?_
  have hw0 := WF_a hw
  unfold WFa at hw0
  refine ra_load rfl rfl rfl rfl ?_
  refine ra_iconst rfl ?_
  refine ra_putI rfl lk_8_51 (Nat.zero_le _) sh_179 rfl rfl ?_
  refine ra_newU (by first | omega | (unfold ra_in at *; omega)) (fun s1 hs1 hp2 hp2o => ?_)
  have hp2_99 := hp2o 99 (by decide)
  have hF3 := Fr_tr (lo := 179) (hi := 191) Fr_rf hs1 (by omega)
  have hk4 : s1 (180) = σ (180) := (hs1 (180) (by omega))
  have hk5 : s1 (183) = σ (183) := (hs1 (183) (by omega))
  have hk6 : s1 (184) = σ (184) := (hs1 (184) (by omega))
  have hk7 : s1 (187) = σ (187) := (hs1 (187) (by omega))
  have hg8 : ∀ a, a ≠ 5 → a ≠ 7 → a ≠ 10 → ra_g s1 179 a = ra_g σ 179 a := fun a h5 h7 h10 => ((fun a h7 h10 => hp2o a h7) a h7 h10).trans ((fun _ _ _ _ => rfl) a h5 h7 h10)
  have ho9 : ∀ a, a ≠ 7 → a ≠ 10 → ra_g s1 179 a = ra_g σ 179 a := fun a h7 h10 => ((fun a h7 h10 => hp2o a h7) a h7 h10).trans ((fun _ _ _ => rfl) a h7 h10)
  refine ra_load rfl rfl rfl rfl ?_
  refine ra_load rfl rfl rfl rfl ?_
  refine ra_load rfl rfl rfl rfl ?_
  refine ra_cQPp (sp_202 hx0) rfl (ct_202 rfl lk_8_313 (Or.inl rfl) sh_179 (Nat.le_of_ble_eq_true rfl)) (fun z11 hz11 hz11p => ?_)
  rw [wq_k hk4] at hz11p
  refine ra_ifeq rfl rfl (ra_in01 hz11) (fun h12 => ?_) (fun h12 => ?_)
  · refine ra_iconst rfl ?_
    refine ra_iconst rfl ?_
    refine ra_cT (s5_194 (Or.inl rfl) (by first | omega | (unfold ra_in at *; omega))) rfl (ct_194 rfl lk_8_303 (Or.inl rfl) sh_179 (Nat.le_of_ble_eq_true rfl)) (fun s13 hs13 => ?_)
    obtain ⟨hf14, he15, he16⟩ := hs13
    have hF17 := Fr_tr (lo := 179) (hi := 191) hF3 hf14 (by omega)
    have hk18 : s13 (180) = σ (180) := (hf14 (180) (by omega)).trans hk4
    have hk19 : s13 (183) = σ (183) := (hf14 (183) (by omega)).trans hk5
    have hk20 : s13 (184) = σ (184) := (hf14 (184) (by omega)).trans hk6
    have hk21 : s13 (187) = σ (187) := (hf14 (187) (by omega)).trans hk7
    have hg22 : ∀ a, a ≠ 5 → a ≠ 7 → a ≠ 10 → ra_g s13 179 a = ra_g σ 179 a := fun a h5 h7 h10 => ((fun a h7 h10 => he15 a h7) a h7 h10).trans (hg8 a h5 h7 h10)
    have ho23 : ∀ a, a ≠ 7 → a ≠ 10 → ra_g s13 179 a = ra_g σ 179 a := fun a h7 h10 => ((fun a h7 h10 => he15 a h7) a h7 h10).trans (ho9 a h7 h10)
    refine ra_ifne rfl rfl (by first | omega | (unfold ra_in at *; omega)) (fun h24 => ?_) (fun h24 => ?_)
    · exact absurd h24 (by decide)
    · refine ra_load rfl rfl rfl rfl ?_
      refine ra_load rfl rfl rfl rfl ?_
      refine ra_iconst rfl ?_
      refine ra_cQPs (s5_268 hx0 (by first | omega | (unfold ra_in at *; omega))) rfl (ct_268 rfl lk_8_318 (Or.inl rfl) sh_179 (Nat.le_of_ble_eq_true rfl)) (fun z26 s25 hz26 hz26p hs25 => ?_)
      rw [wq_k hk18] at hz26p
      have hz26o := hz26p.1
      have hz26q := hz26p.2
      clear hz26p
      obtain ⟨hf27, he28⟩ := hs25
      have hF29 := Fr_tr (lo := 179) (hi := 191) hF17 hf27 (by omega)
      have hk30 : s25 (180) = σ (180) := (hf27 (180) (by omega)).trans hk18
      have hk31 : s25 (183) = σ (183) := (hf27 (183) (by omega)).trans hk19
      have hk32 : s25 (184) = σ (184) := (hf27 (184) (by omega)).trans hk20
      have hk33 : s25 (187) = σ (187) := (hf27 (187) (by omega)).trans hk21
      have hg34 : ∀ a, a ≠ 5 → a ≠ 7 → a ≠ 10 → ra_g s25 179 a = ra_g σ 179 a := fun a h5 h7 h10 => ((fun a h7 h10 => he28 a h7) a h7 h10).trans (hg22 a h5 h7 h10)
      have ho35 : ∀ a, a ≠ 7 → a ≠ 10 → ra_g s25 179 a = ra_g σ 179 a := fun a h7 h10 => ((fun a h7 h10 => he28 a h7) a h7 h10).trans (ho23 a h7 h10)
      refine ra_ifeq rfl rfl (ra_in01 hz26) (fun h36 => ?_) (fun h36 => ?_)
      · refine ra_load rfl rfl rfl rfl ?_
        have hp := hz26o (by omega)
        have hst := hz11p.mpr hp
        have hq := WF_p hw hp.1 hp.2.1 hp.2.2
        have hb0 : s25 180 = σ 180 := hk30
        have hb4 : s25 184 = σ 184 := hk32
        have hb5 : ra_g s25 179 5 = ra_g σ 179 5 := ho35 5 (by decide) (by decide)
        refine ra_cV (s5_197 (WF_k hk30 hw) (PW_k hpw (ho35 5 (by decide) (by decide)) hk32)) rfl (ct_197 rfl lk_8_366 (Or.inl rfl) sh_179 (Nat.le_of_ble_eq_true rfl)) (fun s37 hs37 => ?_)
        obtain ⟨hf38, hc39, hc40, hc41, hc42, he43, he44, he45⟩ := hs37
        have hF46 := Fr_tr (lo := 179) (hi := 191) hF29 hf38 (by omega)
        have hk47 : s37 (180) = σ (180) := hc39.trans hk30
        have hk48 : s37 (183) = σ (183) := hc42.trans hk31
        have hk49 : s37 (187) = σ (187) := (hf38 (187) (by omega)).trans hk33
        have hg50 : ∀ a, a ≠ 5 → a ≠ 7 → a ≠ 10 → ra_g s37 179 a = ra_g σ 179 a := fun a h5 h7 h10 => ((fun a h5 h7 h10 => he43 a h5) a h5 h7 h10).trans (hg34 a h5 h7 h10)
        refine ra_load rfl rfl rfl rfl ?_
        refine ra_load rfl rfl rfl rfl ?_
        refine ra_load rfl rfl rfl rfl ?_
        refine ra_cV (s5_240 hx0 hx1 (WF_k hk47 hw) (sp_k hk47 rfl (hz26o (by omega))) (by exfalso; omega)) rfl (ct_240 rfl lk_8_391 (Or.inl rfl) sh_179 (Nat.le_of_ble_eq_true rfl)) (fun s51 hs51 => ?_)
        obtain ⟨hf52, he53, he54, he55, he56⟩ := hs51
        have hF57 := Fr_tr (lo := 179) (hi := 191) hF46 hf52 (by omega)
        have hk58 : s51 (183) = σ (183) := (hf52 (183) (by omega)).trans hk48
        have hk59 : s51 (187) = σ (187) := (hf52 (187) (by omega)).trans hk49
        have hg60 : ∀ a, a ≠ 5 → a ≠ 7 → a ≠ 10 → ra_g s51 179 a = ra_g σ 179 a := fun a h5 h7 h10 => (ra_gk (hf52 179 (by omega))).trans (hg50 a h5 h7 h10)
        refine ra_load rfl rfl rfl rfl ?_
        refine ra_cIp (sp_235 (MV_f he53 (by have := he54; omega))) rfl (ct_235 rfl lk_8_394 (Or.inl rfl) sh_179 (Nat.le_of_ble_eq_true rfl)) (fun z62 hz62 => ?_)
        exact ra_ireturn rfl rfl ⟨⟨_, hz62, (by exfalso; omega), rfl⟩, ⟨hF57, hk58, hk59, hg60, he53, (PW_k he44 (ra_gk (hf52 179 (by omega))) (hf52 184 (by omega)))⟩⟩
      · refine ra_iconst rfl ?_
        exact ra_ireturn rfl rfl ⟨⟨_, (by first | omega | (unfold ra_in at *; omega)), (x5roF (k := 2) (x5cif_y (fun q => hz26q.1 (by omega) q)) (by decide) (hz26q.2.1 (by omega)) hk30 (ho35 5 (by decide) (by decide)) hk32), rfl⟩, ⟨hF29, hk31, hk33, hg34, (WF_k hk30 hw), (PW_k hpw (ho35 5 (by decide) (by decide)) hk32)⟩⟩
  · refine ra_load rfl rfl rfl rfl ?_
    refine ra_load rfl rfl rfl rfl ?_
    refine ra_load rfl rfl rfl rfl ?_
    refine ra_cIPp (s6_224 hx0 hx1 (WF_k hk4 hw) (sp_k hk4 rfl (hz11p.mp (by omega)))) rfl (ct_224 rfl lk_8_183 (Or.inl rfl) sh_179 (Nat.le_of_ble_eq_true rfl)) (fun z64 hz64 hz64p => ?_)
    have hz64o := hz64p.1
    have hz64q := hz64p.2
    clear hz64p
    refine ra_ifeq rfl rfl hz64 (fun h65 => ?_) (fun h65 => ?_)
    · refine ra_iconst rfl ?_
      refine ra_iconst rfl ?_
      refine ra_cT (s5_194 (Or.inl rfl) (by first | omega | (unfold ra_in at *; omega))) rfl (ct_194 rfl lk_8_303 (Or.inl rfl) sh_179 (Nat.le_of_ble_eq_true rfl)) (fun s66 hs66 => ?_)
      obtain ⟨hf67, he68, he69⟩ := hs66
      have hF70 := Fr_tr (lo := 179) (hi := 191) hF3 hf67 (by omega)
      have hk71 : s66 (180) = σ (180) := (hf67 (180) (by omega)).trans hk4
      have hk72 : s66 (183) = σ (183) := (hf67 (183) (by omega)).trans hk5
      have hk73 : s66 (184) = σ (184) := (hf67 (184) (by omega)).trans hk6
      have hk74 : s66 (187) = σ (187) := (hf67 (187) (by omega)).trans hk7
      have hg75 : ∀ a, a ≠ 5 → a ≠ 7 → a ≠ 10 → ra_g s66 179 a = ra_g σ 179 a := fun a h5 h7 h10 => ((fun a h7 h10 => he68 a h7) a h7 h10).trans (hg8 a h5 h7 h10)
      have ho76 : ∀ a, a ≠ 7 → a ≠ 10 → ra_g s66 179 a = ra_g σ 179 a := fun a h7 h10 => ((fun a h7 h10 => he68 a h7) a h7 h10).trans (ho9 a h7 h10)
      refine ra_ifne rfl rfl (by first | omega | (unfold ra_in at *; omega)) (fun h77 => ?_) (fun h77 => ?_)
      · exact absurd h77 (by decide)
      · refine ra_load rfl rfl rfl rfl ?_
        refine ra_load rfl rfl rfl rfl ?_
        refine ra_iconst rfl ?_
        refine ra_cQPs (s5_268 hx0 (by first | omega | (unfold ra_in at *; omega))) rfl (ct_268 rfl lk_8_318 (Or.inl rfl) sh_179 (Nat.le_of_ble_eq_true rfl)) (fun z79 s78 hz79 hz79p hs78 => ?_)
        rw [wq_k hk71] at hz79p
        have hz79o := hz79p.1
        have hz79q := hz79p.2
        clear hz79p
        obtain ⟨hf80, he81⟩ := hs78
        have hF82 := Fr_tr (lo := 179) (hi := 191) hF70 hf80 (by omega)
        have hk83 : s78 (180) = σ (180) := (hf80 (180) (by omega)).trans hk71
        have hk84 : s78 (183) = σ (183) := (hf80 (183) (by omega)).trans hk72
        have hk85 : s78 (184) = σ (184) := (hf80 (184) (by omega)).trans hk73
        have hk86 : s78 (187) = σ (187) := (hf80 (187) (by omega)).trans hk74
        have hg87 : ∀ a, a ≠ 5 → a ≠ 7 → a ≠ 10 → ra_g s78 179 a = ra_g σ 179 a := fun a h5 h7 h10 => ((fun a h7 h10 => he81 a h7) a h7 h10).trans (hg75 a h5 h7 h10)
        have ho88 : ∀ a, a ≠ 7 → a ≠ 10 → ra_g s78 179 a = ra_g σ 179 a := fun a h7 h10 => ((fun a h7 h10 => he81 a h7) a h7 h10).trans (ho76 a h7 h10)
        refine ra_ifeq rfl rfl (ra_in01 hz79) (fun h89 => ?_) (fun h89 => ?_)
        · refine ra_load rfl rfl rfl rfl ?_
          have hp := hz79o (by omega)
          have hst := hz11p.mpr hp
          have hq := WF_p hw hp.1 hp.2.1 hp.2.2
          have hk := mok_k hk4 (hz64o (by omega))
          have hb0 : s78 180 = σ 180 := hk83
          have hb4 : s78 184 = σ 184 := hk85
          have hb5 : ra_g s78 179 5 = ra_g σ 179 5 := ho88 5 (by decide) (by decide)
          refine ra_cV (s5_197 (WF_k hk83 hw) (PW_k hpw (ho88 5 (by decide) (by decide)) hk85)) rfl (ct_197 rfl lk_8_366 (Or.inl rfl) sh_179 (Nat.le_of_ble_eq_true rfl)) (fun s90 hs90 => ?_)
          obtain ⟨hf91, hc92, hc93, hc94, hc95, he96, he97, he98⟩ := hs90
          have hF99 := Fr_tr (lo := 179) (hi := 191) hF82 hf91 (by omega)
          have hk100 : s90 (180) = σ (180) := hc92.trans hk83
          have hk101 : s90 (183) = σ (183) := hc95.trans hk84
          have hk102 : s90 (187) = σ (187) := (hf91 (187) (by omega)).trans hk86
          have hg103 : ∀ a, a ≠ 5 → a ≠ 7 → a ≠ 10 → ra_g s90 179 a = ra_g σ 179 a := fun a h5 h7 h10 => ((fun a h5 h7 h10 => he96 a h5) a h5 h7 h10).trans (hg87 a h5 h7 h10)
          refine ra_load rfl rfl rfl rfl ?_
          refine ra_load rfl rfl rfl rfl ?_
          refine ra_load rfl rfl rfl rfl ?_
          refine ra_cV (s5_240 hx0 hx1 (WF_k hk100 hw) (sp_k hk100 rfl (hz79o (by omega))) (mok_k hk100.symm hk)) rfl (ct_240 rfl lk_8_391 (Or.inl rfl) sh_179 (Nat.le_of_ble_eq_true rfl)) (fun s104 hs104 => ?_)
          obtain ⟨hf105, he106, he107, he108, he109⟩ := hs104
          have hF110 := Fr_tr (lo := 179) (hi := 191) hF99 hf105 (by omega)
          have hk111 : s104 (183) = σ (183) := (hf105 (183) (by omega)).trans hk101
          have hk112 : s104 (187) = σ (187) := (hf105 (187) (by omega)).trans hk102
          have hg113 : ∀ a, a ≠ 5 → a ≠ 7 → a ≠ 10 → ra_g s104 179 a = ra_g σ 179 a := fun a h5 h7 h10 => (ra_gk (hf105 179 (by omega))).trans (hg103 a h5 h7 h10)
          refine ra_load rfl rfl rfl rfl ?_
          refine ra_cIp (sp_235 (MV_f he106 (by have := he107; omega))) rfl (ct_235 rfl lk_8_394 (Or.inl rfl) sh_179 (Nat.le_of_ble_eq_true rfl)) (fun z115 hz115 => ?_)
          exact ra_ireturn rfl rfl ⟨⟨_, hz115, (x5roY ((x5cif_n (fun q => q hp)).trans (x5cif_n (fun q => q (by have q9 := hz64q; rw [x5whyM_k hk4, ra_gk hk4] at q9; omega)))) ((ra_gk (hf105 (179) (by omega))).trans ((he96 7 (by decide)).trans ((hz79q.2.2 (by omega)).trans ((he69.2 rfl).trans hp2)))) trivial (by have q9 := he109; rw [x5bg_k hk100] at q9; exact q9) (x5psh_k (x5psh_s hb5 hb4 hb0 he98) (ra_gk (hf105 179 (by omega))) (hf105 184 (by omega)))), rfl⟩, ⟨hF110, hk111, hk112, hg113, he106, (PW_k he97 (ra_gk (hf105 179 (by omega))) (hf105 184 (by omega)))⟩⟩
        · refine ra_iconst rfl ?_
          exact ra_ireturn rfl rfl ⟨⟨_, (by first | omega | (unfold ra_in at *; omega)), (x5roF (k := 2) (x5cif_y (fun q => hz79q.1 (by omega) q)) (by decide) (hz79q.2.1 (by omega)) hk83 (ho88 5 (by decide) (by decide)) hk85), rfl⟩, ⟨hF82, hk84, hk86, hg87, (WF_k hk83 hw), (PW_k hpw (ho88 5 (by decide) (by decide)) hk85)⟩⟩
    · refine ra_iconst rfl ?_
      refine ra_goto rfl rfl ?_
      refine ra_iconst rfl ?_
      refine ra_cT (s5_194 (Or.inr rfl) (by first | omega | (unfold ra_in at *; omega))) rfl (ct_194 rfl lk_8_303 (Or.inl rfl) sh_179 (Nat.le_of_ble_eq_true rfl)) (fun s116 hs116 => ?_)
      obtain ⟨hf117, he118, he119⟩ := hs116
      have hF120 := Fr_tr (lo := 179) (hi := 191) hF3 hf117 (by omega)
      have hk121 : s116 (180) = σ (180) := (hf117 (180) (by omega)).trans hk4
      have hk122 : s116 (183) = σ (183) := (hf117 (183) (by omega)).trans hk5
      have hk123 : s116 (184) = σ (184) := (hf117 (184) (by omega)).trans hk6
      have hk124 : s116 (187) = σ (187) := (hf117 (187) (by omega)).trans hk7
      have hg125 : ∀ a, a ≠ 5 → a ≠ 7 → a ≠ 10 → ra_g s116 179 a = ra_g σ 179 a := fun a h5 h7 h10 => ((fun a h7 h10 => he118 a h7) a h7 h10).trans (hg8 a h5 h7 h10)
      have ho126 : ∀ a, a ≠ 7 → a ≠ 10 → ra_g s116 179 a = ra_g σ 179 a := fun a h7 h10 => ((fun a h7 h10 => he118 a h7) a h7 h10).trans (ho9 a h7 h10)
      refine ra_ifne rfl rfl (by first | omega | (unfold ra_in at *; omega)) (fun h127 => ?_) (fun h127 => ?_)
      · refine ra_iconst rfl ?_
        exact ra_ireturn rfl rfl ⟨⟨_, (by first | omega | (unfold ra_in at *; omega)), (x5roF (k := 1) ((x5cif_n (fun q => q (show x5EX σ x0 from hz11p.mp (by omega)))).trans (x5cif_y (by have q9 := hz64q; rw [x5whyM_k hk4, ra_gk hk4] at q9; omega))) (by decide) (he119.1 rfl) hk121 (ho126 5 (by decide) (by decide)) hk123), rfl⟩, ⟨hF120, hk122, hk124, hg125, (WF_k hk121 hw), (PW_k hpw (ho126 5 (by decide) (by decide)) hk123)⟩⟩
      · exact absurd h127 (by decide)
theorem s5_319 {n : Nat} {f : Nat → Int32} {d : Nat} {x0 : Int} {σ : ra_V} (hx0 : ra_in x0) (hw : WF σ) (hpw : PW σ) : ra_C (g_Gs n f) g_sh 0 (d + 11) 319 [.index (179), ra_I x0] σ (fun r9 s => (∃ z, ra_in z ∧ (x5RO (x5dcRun σ x0) (fun z => z = x5cnv x0.toNat σ) (x5runV x0.toNat σ) σ s z) ∧ r9 = .inl (some (ra_I z))) ∧ Fr (179) (191) σ s ∧ s (183) = σ (183) ∧ s (187) = σ (187) ∧ (∀ a, a ≠ 5 → a ≠ 7 → a ≠ 10 → ra_g s 179 a = ra_g σ 179 a) ∧ WF s ∧ PW s) := by
  refine ra_enter (nn := 0) mt_319 rfl (Nat.le_of_ble_eq_true rfl) rfl (fun h => absurd h (by decide +kernel)) ?_
  have hw0 := WF_a hw
  unfold WFa at hw0
  refine ra_load rfl rfl rfl rfl ?_
  refine ra_iconst rfl ?_
  refine ra_putI rfl lk_8_51 (Nat.zero_le _) sh_179 rfl rfl ?_
  refine ra_newU (by first | omega | (unfold ra_in at *; omega)) (fun s1 hs1 hp2 hp2o => ?_)
  have hp2_99 := hp2o 99 (by decide)
  have hF3 := Fr_tr (lo := 179) (hi := 191) Fr_rf hs1 (by omega)
  have hk4 : s1 (180) = σ (180) := (hs1 (180) (by omega))
  have hk5 : s1 (183) = σ (183) := (hs1 (183) (by omega))
  have hk6 : s1 (184) = σ (184) := (hs1 (184) (by omega))
  have hk7 : s1 (187) = σ (187) := (hs1 (187) (by omega))
  have hg8 : ∀ a, a ≠ 5 → a ≠ 7 → a ≠ 10 → ra_g s1 179 a = ra_g σ 179 a := fun a h5 h7 h10 => ((fun a h7 h10 => hp2o a h7) a h7 h10).trans ((fun _ _ _ _ => rfl) a h5 h7 h10)
  have ho9 : ∀ a, a ≠ 7 → a ≠ 10 → ra_g s1 179 a = ra_g σ 179 a := fun a h7 h10 => ((fun a h7 h10 => hp2o a h7) a h7 h10).trans ((fun _ _ _ => rfl) a h7 h10)
  refine ra_load rfl rfl rfl rfl ?_
  refine ra_load rfl rfl rfl rfl ?_
  refine ra_i2l rfl hx0 ?_
  refine ra_lconst1 rfl ?_
  refine ra_ldc2 (z := 999) rfl lk_8_397 (by decide) ?_
  refine ra_cTp (sp_193 hx0 (by first | omega | (unfold ra_in at *; omega)) (by first | omega | (unfold ra_in at *; omega))) rfl (ct_193 rfl lk_8_63 (Or.inl rfl) (Nat.le_of_ble_eq_true rfl)) ?_
  refine ra_ifneB rfl rfl (fun h11 => ?_) (fun h11 => ?_)
  · refine ra_iconst rfl ?_
    refine ra_iconst rfl ?_
    refine ra_cT (s5_194 (Or.inl rfl) (by first | omega | (unfold ra_in at *; omega))) rfl (ct_194 rfl lk_8_303 (Or.inl rfl) sh_179 (Nat.le_of_ble_eq_true rfl)) (fun s12 hs12 => ?_)
    obtain ⟨hf13, he14, he15⟩ := hs12
    have hF16 := Fr_tr (lo := 179) (hi := 191) hF3 hf13 (by omega)
    have hk17 : s12 (180) = σ (180) := (hf13 (180) (by omega)).trans hk4
    have hk18 : s12 (183) = σ (183) := (hf13 (183) (by omega)).trans hk5
    have hk19 : s12 (184) = σ (184) := (hf13 (184) (by omega)).trans hk6
    have hk20 : s12 (187) = σ (187) := (hf13 (187) (by omega)).trans hk7
    have hg21 : ∀ a, a ≠ 5 → a ≠ 7 → a ≠ 10 → ra_g s12 179 a = ra_g σ 179 a := fun a h5 h7 h10 => ((fun a h7 h10 => he14 a h7) a h7 h10).trans (hg8 a h5 h7 h10)
    have ho22 : ∀ a, a ≠ 7 → a ≠ 10 → ra_g s12 179 a = ra_g σ 179 a := fun a h7 h10 => ((fun a h7 h10 => he14 a h7) a h7 h10).trans (ho9 a h7 h10)
    refine ra_ifne rfl rfl (by first | omega | (unfold ra_in at *; omega)) (fun h23 => ?_) (fun h23 => ?_)
    · exact absurd h23 (by decide)
    · refine ra_load rfl rfl rfl rfl ?_
      refine ra_load rfl rfl rfl rfl ?_
      refine ra_cQPp (sp_204 ) rfl (ct_204 rfl lk_8_95 (Or.inl rfl) sh_179 (Nat.le_of_ble_eq_true rfl)) (fun z25 hz25 hz25p => ?_)
      refine ra_ifne rfl rfl (ra_in01 hz25) (fun h26 => ?_) (fun h26 => ?_)
      · refine ra_iconst rfl ?_
        refine ra_iconst rfl ?_
        refine ra_cT (s5_194 (Or.inl rfl) (by first | omega | (unfold ra_in at *; omega))) rfl (ct_194 rfl lk_8_303 (Or.inl rfl) sh_179 (Nat.le_of_ble_eq_true rfl)) (fun s27 hs27 => ?_)
        obtain ⟨hf28, he29, he30⟩ := hs27
        have hF31 := Fr_tr (lo := 179) (hi := 191) hF16 hf28 (by omega)
        have hk32 : s27 (180) = σ (180) := (hf28 (180) (by omega)).trans hk17
        have hk33 : s27 (183) = σ (183) := (hf28 (183) (by omega)).trans hk18
        have hk34 : s27 (184) = σ (184) := (hf28 (184) (by omega)).trans hk19
        have hk35 : s27 (187) = σ (187) := (hf28 (187) (by omega)).trans hk20
        have hg36 : ∀ a, a ≠ 5 → a ≠ 7 → a ≠ 10 → ra_g s27 179 a = ra_g σ 179 a := fun a h5 h7 h10 => ((fun a h7 h10 => he29 a h7) a h7 h10).trans (hg21 a h5 h7 h10)
        have ho37 : ∀ a, a ≠ 7 → a ≠ 10 → ra_g s27 179 a = ra_g σ 179 a := fun a h7 h10 => ((fun a h7 h10 => he29 a h7) a h7 h10).trans (ho22 a h7 h10)
        refine ra_ifeq rfl rfl (by first | omega | (unfold ra_in at *; omega)) (fun h38 => ?_) (fun h38 => ?_)
        · refine ra_load rfl rfl rfl rfl ?_
          have hb0 : s27 180 = σ 180 := hk32
          have hb4 : s27 184 = σ 184 := hk34
          have hb5 : ra_g s27 179 5 = ra_g σ 179 5 := ho37 5 (by decide) (by decide)
          refine ra_cV (s5_197 (WF_k hk32 hw) (PW_k hpw (ho37 5 (by decide) (by decide)) hk34)) rfl (ct_197 rfl lk_8_366 (Or.inl rfl) sh_179 (Nat.le_of_ble_eq_true rfl)) (fun s39 hs39 => ?_)
          obtain ⟨hf40, hc41, hc42, hc43, hc44, he45, he46, he47⟩ := hs39
          have hF48 := Fr_tr (lo := 179) (hi := 191) hF31 hf40 (by omega)
          have hk49 : s39 (180) = σ (180) := hc41.trans hk32
          have hk50 : s39 (183) = σ (183) := hc44.trans hk33
          have hk51 : s39 (187) = σ (187) := (hf40 (187) (by omega)).trans hk35
          have hg52 : ∀ a, a ≠ 5 → a ≠ 7 → a ≠ 10 → ra_g s39 179 a = ra_g σ 179 a := fun a h5 h7 h10 => ((fun a h5 h7 h10 => he45 a h5) a h5 h7 h10).trans (hg36 a h5 h7 h10)
          refine ra_load rfl rfl rfl rfl ?_
          refine ra_load rfl rfl rfl rfl ?_
          refine ra_cIP (s5_242 hx0 (WF_k hk49 hw)) rfl (ct_242 rfl lk_8_399 (Or.inl rfl) sh_179 (Nat.le_of_ble_eq_true rfl)) (fun z54 s53 hz54 hz54p hs53 => ?_)
          obtain ⟨hf55, he56, he57, he58⟩ := hs53
          have hF59 := Fr_tr (lo := 179) (hi := 191) hF48 hf55 (by omega)
          have hk60 : s53 (183) = σ (183) := (hf55 (183) (by omega)).trans hk50
          have hk61 : s53 (187) = σ (187) := (hf55 (187) (by omega)).trans hk51
          have hg62 : ∀ a, a ≠ 5 → a ≠ 7 → a ≠ 10 → ra_g s53 179 a = ra_g σ 179 a := fun a h5 h7 h10 => (ra_gk (hf55 179 (by omega))).trans (hg52 a h5 h7 h10)
          exact ra_ireturn rfl rfl ⟨⟨_, hz54, (x5roY ((x5cif_n (fun q => q (by omega))).trans (x5cif_n (by have q9 := hz25p; rw [ra_gk hk17] at q9; omega))) ((ra_gk (hf55 (179) (by omega))).trans ((he45 7 (by decide)).trans ((he30.2 rfl).trans ((he15.2 rfl).trans hp2)))) (hz54p.trans (x5cnv_k hk49)) (x5runV_k hk49 he58) (x5psh_k (x5psh_s hb5 hb4 hb0 he47) (ra_gk (hf55 179 (by omega))) (hf55 184 (by omega)))), rfl⟩, ⟨hF59, hk60, hk61, hg62, he56, (PW_k he46 (ra_gk (hf55 179 (by omega))) (hf55 184 (by omega)))⟩⟩
        · exact absurd h38 (by decide)
      · refine ra_iconst rfl ?_
        refine ra_goto rfl rfl ?_
        refine ra_iconst rfl ?_
        refine ra_cT (s5_194 (Or.inr rfl) (by first | omega | (unfold ra_in at *; omega))) rfl (ct_194 rfl lk_8_303 (Or.inl rfl) sh_179 (Nat.le_of_ble_eq_true rfl)) (fun s63 hs63 => ?_)
        obtain ⟨hf64, he65, he66⟩ := hs63
        have hF67 := Fr_tr (lo := 179) (hi := 191) hF16 hf64 (by omega)
        have hk68 : s63 (180) = σ (180) := (hf64 (180) (by omega)).trans hk17
        have hk69 : s63 (183) = σ (183) := (hf64 (183) (by omega)).trans hk18
        have hk70 : s63 (184) = σ (184) := (hf64 (184) (by omega)).trans hk19
        have hk71 : s63 (187) = σ (187) := (hf64 (187) (by omega)).trans hk20
        have hg72 : ∀ a, a ≠ 5 → a ≠ 7 → a ≠ 10 → ra_g s63 179 a = ra_g σ 179 a := fun a h5 h7 h10 => ((fun a h7 h10 => he65 a h7) a h7 h10).trans (hg21 a h5 h7 h10)
        have ho73 : ∀ a, a ≠ 7 → a ≠ 10 → ra_g s63 179 a = ra_g σ 179 a := fun a h7 h10 => ((fun a h7 h10 => he65 a h7) a h7 h10).trans (ho22 a h7 h10)
        refine ra_ifeq rfl rfl (by first | omega | (unfold ra_in at *; omega)) (fun h74 => ?_) (fun h74 => ?_)
        · exact absurd h74 (by decide)
        · refine ra_iconst rfl ?_
          exact ra_ireturn rfl rfl ⟨⟨_, (by first | omega | (unfold ra_in at *; omega)), (x5roF (k := 2) ((x5cif_n (fun q => q (by omega))).trans (x5cif_y (by have q9 := hz25p; rw [ra_gk hk17] at q9; omega))) (by decide) (he66.1 rfl) hk68 (ho73 5 (by decide) (by decide)) hk70), rfl⟩, ⟨hF67, hk69, hk71, hg72, (WF_k hk68 hw), (PW_k hpw (ho73 5 (by decide) (by decide)) hk70)⟩⟩
  · refine ra_iconst rfl ?_
    refine ra_goto rfl rfl ?_
    refine ra_iconst rfl ?_
    refine ra_cT (s5_194 (Or.inr rfl) (by first | omega | (unfold ra_in at *; omega))) rfl (ct_194 rfl lk_8_303 (Or.inl rfl) sh_179 (Nat.le_of_ble_eq_true rfl)) (fun s75 hs75 => ?_)
    obtain ⟨hf76, he77, he78⟩ := hs75
    have hF79 := Fr_tr (lo := 179) (hi := 191) hF3 hf76 (by omega)
    have hk80 : s75 (180) = σ (180) := (hf76 (180) (by omega)).trans hk4
    have hk81 : s75 (183) = σ (183) := (hf76 (183) (by omega)).trans hk5
    have hk82 : s75 (184) = σ (184) := (hf76 (184) (by omega)).trans hk6
    have hk83 : s75 (187) = σ (187) := (hf76 (187) (by omega)).trans hk7
    have hg84 : ∀ a, a ≠ 5 → a ≠ 7 → a ≠ 10 → ra_g s75 179 a = ra_g σ 179 a := fun a h5 h7 h10 => ((fun a h7 h10 => he77 a h7) a h7 h10).trans (hg8 a h5 h7 h10)
    have ho85 : ∀ a, a ≠ 7 → a ≠ 10 → ra_g s75 179 a = ra_g σ 179 a := fun a h7 h10 => ((fun a h7 h10 => he77 a h7) a h7 h10).trans (ho9 a h7 h10)
    refine ra_ifne rfl rfl (by first | omega | (unfold ra_in at *; omega)) (fun h86 => ?_) (fun h86 => ?_)
    · refine ra_iconst rfl ?_
      exact ra_ireturn rfl rfl ⟨⟨_, (by first | omega | (unfold ra_in at *; omega)), (x5roF (k := 1) (x5cif_y (by omega)) (by decide) (he78.1 rfl) hk80 (ho85 5 (by decide) (by decide)) hk82), rfl⟩, ⟨hF79, hk81, hk83, hg84, (WF_k hk80 hw), (PW_k hpw (ho85 5 (by decide) (by decide)) hk82)⟩⟩
    · exact absurd h86 (by decide)
theorem s5_320 {n : Nat} {f : Nat → Int32} {d : Nat}  {σ : ra_V} (hw : WF σ) (hpw : PW σ) : ra_C (g_Gs n f) g_sh 0 (d + 9) 320 [.index (179)] σ (fun r9 s => (∃ z, ra_in z ∧ (x5RO (x5dcTr σ) (fun z => z = (rbn σ).tdiv 2) (x5up σ 7 (ra_g σ 180 7 + 1)) σ s z) ∧ r9 = .inl (some (ra_I z))) ∧ Fr (179) (191) σ s ∧ s (183) = σ (183) ∧ s (187) = σ (187) ∧ (∀ a, a ≠ 5 → a ≠ 7 → a ≠ 10 → ra_g s 179 a = ra_g σ 179 a) ∧ WF s ∧ PW s) := by
  refine ra_enter (nn := 1) mt_320 rfl (Nat.le_of_ble_eq_true rfl) rfl (fun h => absurd h (by decide +kernel)) ?_
  have hw0 := WF_a hw
  unfold WFa at hw0
  refine ra_load rfl rfl rfl rfl ?_
  refine ra_iconst rfl ?_
  refine ra_putI rfl lk_8_51 (Nat.zero_le _) sh_179 rfl rfl ?_
  refine ra_newU (by first | omega | (unfold ra_in at *; omega)) (fun s1 hs1 hp2 hp2o => ?_)
  have hp2_99 := hp2o 99 (by decide)
  have hF3 := Fr_tr (lo := 179) (hi := 191) Fr_rf hs1 (by omega)
  have hk4 : s1 (180) = σ (180) := (hs1 (180) (by omega))
  have hk5 : s1 (183) = σ (183) := (hs1 (183) (by omega))
  have hk6 : s1 (184) = σ (184) := (hs1 (184) (by omega))
  have hk7 : s1 (187) = σ (187) := (hs1 (187) (by omega))
  have hg8 : ∀ a, a ≠ 5 → a ≠ 7 → a ≠ 10 → ra_g s1 179 a = ra_g σ 179 a := fun a h5 h7 h10 => ((fun a h7 h10 => hp2o a h7) a h7 h10).trans ((fun _ _ _ _ => rfl) a h5 h7 h10)
  have ho9 : ∀ a, a ≠ 7 → a ≠ 10 → ra_g s1 179 a = ra_g σ 179 a := fun a h7 h10 => ((fun a h7 h10 => hp2o a h7) a h7 h10).trans ((fun _ _ _ => rfl) a h7 h10)
  refine ra_load rfl rfl rfl rfl ?_
  refine ra_load rfl rfl rfl rfl ?_
  refine ra_cQPp (sp_204 ) rfl (ct_204 rfl lk_8_95 (Or.inl rfl) sh_179 (Nat.le_of_ble_eq_true rfl)) (fun z11 hz11 hz11p => ?_)
  refine ra_ifne rfl rfl (ra_in01 hz11) (fun h12 => ?_) (fun h12 => ?_)
  · refine ra_iconst rfl ?_
    refine ra_iconst rfl ?_
    refine ra_cT (s5_194 (Or.inl rfl) (by first | omega | (unfold ra_in at *; omega))) rfl (ct_194 rfl lk_8_303 (Or.inl rfl) sh_179 (Nat.le_of_ble_eq_true rfl)) (fun s13 hs13 => ?_)
    obtain ⟨hf14, he15, he16⟩ := hs13
    have hF17 := Fr_tr (lo := 179) (hi := 191) hF3 hf14 (by omega)
    have hk18 : s13 (180) = σ (180) := (hf14 (180) (by omega)).trans hk4
    have hk19 : s13 (183) = σ (183) := (hf14 (183) (by omega)).trans hk5
    have hk20 : s13 (184) = σ (184) := (hf14 (184) (by omega)).trans hk6
    have hk21 : s13 (187) = σ (187) := (hf14 (187) (by omega)).trans hk7
    have hg22 : ∀ a, a ≠ 5 → a ≠ 7 → a ≠ 10 → ra_g s13 179 a = ra_g σ 179 a := fun a h5 h7 h10 => ((fun a h7 h10 => he15 a h7) a h7 h10).trans (hg8 a h5 h7 h10)
    have ho23 : ∀ a, a ≠ 7 → a ≠ 10 → ra_g s13 179 a = ra_g σ 179 a := fun a h7 h10 => ((fun a h7 h10 => he15 a h7) a h7 h10).trans (ho9 a h7 h10)
    refine ra_ifeq rfl rfl (by first | omega | (unfold ra_in at *; omega)) (fun h24 => ?_) (fun h24 => ?_)
    · refine ra_load rfl rfl rfl rfl ?_
      have hb0 : s13 180 = σ 180 := hk18
      have hb4 : s13 184 = σ 184 := hk20
      have hb5 : ra_g s13 179 5 = ra_g σ 179 5 := ho23 5 (by decide) (by decide)
      refine ra_cV (s5_197 (WF_k hk18 hw) (PW_k hpw (ho23 5 (by decide) (by decide)) hk20)) rfl (ct_197 rfl lk_8_366 (Or.inl rfl) sh_179 (Nat.le_of_ble_eq_true rfl)) (fun s25 hs25 => ?_)
      obtain ⟨hf26, hc27, hc28, hc29, hc30, he31, he32, he33⟩ := hs25
      have hF34 := Fr_tr (lo := 179) (hi := 191) hF17 hf26 (by omega)
      have hk35 : s25 (180) = σ (180) := hc27.trans hk18
      have hk36 : s25 (183) = σ (183) := hc30.trans hk19
      have hk37 : s25 (187) = σ (187) := (hf26 (187) (by omega)).trans hk21
      have hg38 : ∀ a, a ≠ 5 → a ≠ 7 → a ≠ 10 → ra_g s25 179 a = ra_g σ 179 a := fun a h5 h7 h10 => ((fun a h5 h7 h10 => he31 a h5) a h5 h7 h10).trans (hg22 a h5 h7 h10)
      have hmv0 := hz11p.mp (by omega)
      rw [ra_gk hk4] at hmv0
      have hmv : ra_g s25 180 16 ≠ -1 := by rw [ra_gk hk35]; exact hmv0
      refine ra_load rfl rfl rfl rfl ?_
      refine ra_cTp (sp_234 (MV_f (WF_k hk35 hw) (by omega))) rfl (ct_234 rfl lk_8_162 (Or.inl rfl) sh_179 (Nat.le_of_ble_eq_true rfl)) ?_
      have hm40 := (MV_f (WF_k hk35 hw) (by omega))
      unfold MF at hm40
      have hr41 : ra_in (rbn s25) := (by first | omega | (unfold ra_in at *; omega))
      refine ra_iconst rfl ?_
      refine ra_idiv rfl hr41 (by first | omega | (unfold ra_in at *; omega)) (by omega) ?_
      refine ra_store (L' := [_, _]) rfl rfl rfl (Nat.le_of_ble_eq_true rfl) rfl ?_
      have ht := td2 (b := rbn s25) (by omega)
      refine ra_load rfl rfl rfl rfl ?_
      refine ra_load rfl rfl rfl rfl ?_
      refine ra_cV (sp_239 (ra_in_tdiv hr41 (by omega)) (MV_f (WF_k hk35 hw) (by omega)) (by first | assumption | rfl | omega)) rfl (ct_239 rfl lk_8_174 (Or.inl rfl) sh_179 (Nat.le_of_ble_eq_true rfl)) (fun s42 hs42 => ?_)
      obtain ⟨hf43, he44⟩ := hs42
      have hF45 := Fr_tr (lo := 179) (hi := 191) hF34 hf43 (by omega)
      have hk46 : s42 (183) = σ (183) := (hf43 (183) (by omega)).trans hk36
      have hk47 : s42 (187) = σ (187) := (hf43 (187) (by omega)).trans hk37
      have hg48 : ∀ a, a ≠ 5 → a ≠ 7 → a ≠ 10 → ra_g s42 179 a = ra_g σ 179 a := fun a h5 h7 h10 => (ra_gk (hf43 179 (by omega))).trans (hg38 a h5 h7 h10)
      refine ra_load rfl rfl rfl rfl ?_
      refine ra_getR rfl lk_8_7 (Nat.zero_le _) sh_179 rfl ?_
      refine ra_bipush rfl (by decide) ?_
      refine ra_dup2 rfl rfl rfl ?_
      refine ra_ialoadJ (j := 7) rfl sh_180 rfl (by decide) rfl (by decide) ?_
      have hr49 : ra_in (ra_g s42 (180) 7) := (ra_in_g _ _ _)
      refine ra_iconst rfl ?_
      refine ra_iadd rfl ?_
      refine x5wr_ ?_
      refine ra_iastoreJ (j := 7) rfl sh_180 rfl (by decide) rfl (by decide) ?_
      refine ra_newR (ra_w_in _) (fun s50 hs50 hs50v hs50o => ?_)
      have hF51 := Fr_tr (lo := 179) (hi := 191) hF45 hs50 (by omega)
      have hk52 : s50 (183) = σ (183) := (hs50 (183) (by omega)).trans hk46
      have hk53 : s50 (187) = σ (187) := (hs50 (187) (by omega)).trans hk47
      have hg54 : ∀ a, a ≠ 5 → a ≠ 7 → a ≠ 10 → ra_g s50 179 a = ra_g σ 179 a := fun a h5 h7 h10 => (ra_gk (hs50 179 (by omega))).trans (hg48 a h5 h7 h10)
      refine ra_load rfl rfl rfl rfl ?_
      exact ra_ireturn rfl rfl ⟨⟨_, (ra_in_tdiv hr41 (by omega)), (x5roY (x5cif_n (by have q9 := hz11p; rw [ra_gk hk4] at q9; omega)) ((ra_gk (hs50 (179) (by omega))).trans ((ra_gk (hf43 (179) (by omega))).trans ((he31 7 (by decide)).trans ((he16.2 rfl).trans hp2)))) (show ((rbn s25).tdiv (2)) = (rbn σ).tdiv 2 from by rw [(mv_sc (SC_k hk35) (by omega)).2.2.2.2.1]) (x5sc_upw (SC_tr (SC_tr (SC_tr (SC_tr SC_rf (SC_k (hs1 180 (by omega)))) (SC_k (hf14 180 (by omega)))) (SC_k hc27)) he44) (hs50v.trans (by rw [((he44 7 (by omega)).trans ((ra_gk hc27).trans ((ra_gk (hf14 (180) (by omega))).trans (ra_gk (hs1 (180) (by omega))))))])) hs50o) (x5psh_k (x5psh_s hb5 hb4 hb0 he33) ((ra_gk (hs50 179 (by omega))).trans (ra_gk (hf43 179 (by omega)))) ((hs50 184 (by omega)).trans (hf43 184 (by omega))))), rfl⟩, ⟨hF51, hk52, hk53, hg54, (WF_rel (fun a ha => hs50o a (by unfold REL at ha; omega)) (WF_sc he44 (WF_k hk35 hw))), (PW_k (PW_k he32 (ra_gk (hf43 179 (by omega))) (hf43 184 (by omega))) (ra_gk (hs50 179 (by omega))) (hs50 184 (by omega)))⟩⟩
    · exact absurd h24 (by decide)
  · refine ra_iconst rfl ?_
    refine ra_goto rfl rfl ?_
    refine ra_iconst rfl ?_
    refine ra_cT (s5_194 (Or.inr rfl) (by first | omega | (unfold ra_in at *; omega))) rfl (ct_194 rfl lk_8_303 (Or.inl rfl) sh_179 (Nat.le_of_ble_eq_true rfl)) (fun s55 hs55 => ?_)
    obtain ⟨hf56, he57, he58⟩ := hs55
    have hF59 := Fr_tr (lo := 179) (hi := 191) hF3 hf56 (by omega)
    have hk60 : s55 (180) = σ (180) := (hf56 (180) (by omega)).trans hk4
    have hk61 : s55 (183) = σ (183) := (hf56 (183) (by omega)).trans hk5
    have hk62 : s55 (184) = σ (184) := (hf56 (184) (by omega)).trans hk6
    have hk63 : s55 (187) = σ (187) := (hf56 (187) (by omega)).trans hk7
    have hg64 : ∀ a, a ≠ 5 → a ≠ 7 → a ≠ 10 → ra_g s55 179 a = ra_g σ 179 a := fun a h5 h7 h10 => ((fun a h7 h10 => he57 a h7) a h7 h10).trans (hg8 a h5 h7 h10)
    have ho65 : ∀ a, a ≠ 7 → a ≠ 10 → ra_g s55 179 a = ra_g σ 179 a := fun a h7 h10 => ((fun a h7 h10 => he57 a h7) a h7 h10).trans (ho9 a h7 h10)
    refine ra_ifeq rfl rfl (by first | omega | (unfold ra_in at *; omega)) (fun h66 => ?_) (fun h66 => ?_)
    · exact absurd h66 (by decide)
    · refine ra_iconst rfl ?_
      exact ra_ireturn rfl rfl ⟨⟨_, (by first | omega | (unfold ra_in at *; omega)), (x5roF (k := 1) (x5cif_y (by have q9 := hz11p; rw [ra_gk hk4] at q9; omega)) (by decide) (he58.1 rfl) hk60 (ho65 5 (by decide) (by decide)) hk62), rfl⟩, ⟨hF59, hk61, hk63, hg64, (WF_k hk60 hw), (PW_k hpw (ho65 5 (by decide) (by decide)) hk62)⟩⟩
end
