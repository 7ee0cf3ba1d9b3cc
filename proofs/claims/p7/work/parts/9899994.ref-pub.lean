/-! T5: what the reference changes (printed by wip/gen/r6.py) -/
section
theorem s5_299 {n : Nat} {f : Nat → Int32} {d : Nat} {x0 : Int} {σ : ra_V} (hx0 : ra_in x0) (hw : WF σ) (hpw : PW σ) : ra_C (g_Gs n f) g_sh 0 (d + 4) 299 [.index (179), ra_I x0] σ (fun r9 s => (∃ z, ra_in z ∧ (x5RO (x5dcRm σ x0) (fun z => z = wq σ x0 2) (x5up σ (24 + 8 * x0 + 0).toNat 0) σ s z) ∧ r9 = .inl (some (ra_I z))) ∧ Fr (179) (191) σ s ∧ s (183) = σ (183) ∧ s (187) = σ (187) ∧ (∀ a, a ≠ 5 → a ≠ 7 → a ≠ 10 → ra_g s 179 a = ra_g σ 179 a) ∧ WF s ∧ PW s) := by
  refine ra_enter (nn := 0) mt_299 rfl (Nat.le_of_ble_eq_true rfl) rfl (fun h => absurd h (by decide +kernel)) ?_
  have hw0 := WF_a hw
  unfold WFa at hw0
  refine ra_load rfl rfl rfl rfl ?_
  refine ra_iconst rfl ?_
  refine ra_putI rfl lk_8_51 (Nat.zero_le _) sh_179 rfl rfl ?_
  refine ra_newU (by first | omega | (unfold ra_in at *; omega)) (fun s1 hs1 hp2 hp2o => ?_)
  have hp2_99 := hp2o 99 (by decide)
  have hF3 := Fr_tr (lo := 179) (hi := 191) Fr_rf hs1 (by omega)
  have hk4 : s1 (180) = σ (180) := (hs1 (180) (by omega))
  have hk5 : s1 (183) = σ (183) := (hs1 (183) (by omega))
  have hk6 : s1 (184) = σ (184) := (hs1 (184) (by omega))
  have hk7 : s1 (187) = σ (187) := (hs1 (187) (by omega))
  have hg8 : ∀ a, a ≠ 5 → a ≠ 7 → a ≠ 10 → ra_g s1 179 a = ra_g σ 179 a := fun a h5 h7 h10 => ((fun a h7 h10 => hp2o a h7) a h7 h10).trans ((fun _ _ _ _ => rfl) a h5 h7 h10)
  have ho9 : ∀ a, a ≠ 7 → a ≠ 10 → ra_g s1 179 a = ra_g σ 179 a := fun a h7 h10 => ((fun a h7 h10 => hp2o a h7) a h7 h10).trans ((fun _ _ _ => rfl) a h7 h10)
  refine ra_load rfl rfl rfl rfl ?_
  refine ra_load rfl rfl rfl rfl ?_
  refine ra_load rfl rfl rfl rfl ?_
  refine ra_cQPp (sp_202 hx0) rfl (ct_202 rfl lk_8_313 (Or.inl rfl) sh_179 (Nat.le_of_ble_eq_true rfl)) (fun z11 hz11 hz11p => ?_)
  rw [wq_k hk4] at hz11p
  refine ra_ifeq rfl rfl (ra_in01 hz11) (fun h12 => ?_) (fun h12 => ?_)
  · refine ra_iconst rfl ?_
    refine ra_iconst rfl ?_
    refine ra_cT (s5_194 (Or.inl rfl) (by first | omega | (unfold ra_in at *; omega))) rfl (ct_194 rfl lk_8_303 (Or.inl rfl) sh_179 (Nat.le_of_ble_eq_true rfl)) (fun s13 hs13 => ?_)
    obtain ⟨hf14, he15, he16⟩ := hs13
    have hF17 := Fr_tr (lo := 179) (hi := 191) hF3 hf14 (by omega)
    have hk18 : s13 (180) = σ (180) := (hf14 (180) (by omega)).trans hk4
    have hk19 : s13 (183) = σ (183) := (hf14 (183) (by omega)).trans hk5
    have hk20 : s13 (184) = σ (184) := (hf14 (184) (by omega)).trans hk6
    have hk21 : s13 (187) = σ (187) := (hf14 (187) (by omega)).trans hk7
    have hg22 : ∀ a, a ≠ 5 → a ≠ 7 → a ≠ 10 → ra_g s13 179 a = ra_g σ 179 a := fun a h5 h7 h10 => ((fun a h7 h10 => he15 a h7) a h7 h10).trans (hg8 a h5 h7 h10)
    have ho23 : ∀ a, a ≠ 7 → a ≠ 10 → ra_g s13 179 a = ra_g σ 179 a := fun a h7 h10 => ((fun a h7 h10 => he15 a h7) a h7 h10).trans (ho9 a h7 h10)
    refine ra_ifne rfl rfl (by first | omega | (unfold ra_in at *; omega)) (fun h24 => ?_) (fun h24 => ?_)
    · exact absurd h24 (by decide)
    · refine ra_load rfl rfl rfl rfl ?_
      refine ra_load rfl rfl rfl rfl ?_
      refine ra_iconst rfl ?_
      refine ra_cQPs (s5_268 hx0 (by first | omega | (unfold ra_in at *; omega))) rfl (ct_268 rfl lk_8_318 (Or.inl rfl) sh_179 (Nat.le_of_ble_eq_true rfl)) (fun z26 s25 hz26 hz26p hs25 => ?_)
      rw [wq_k hk18] at hz26p
      have hz26o := hz26p.1
      have hz26q := hz26p.2
      clear hz26p
      obtain ⟨hf27, he28⟩ := hs25
      have hF29 := Fr_tr (lo := 179) (hi := 191) hF17 hf27 (by omega)
      have hk30 : s25 (180) = σ (180) := (hf27 (180) (by omega)).trans hk18
      have hk31 : s25 (183) = σ (183) := (hf27 (183) (by omega)).trans hk19
      have hk32 : s25 (184) = σ (184) := (hf27 (184) (by omega)).trans hk20
      have hk33 : s25 (187) = σ (187) := (hf27 (187) (by omega)).trans hk21
      have hg34 : ∀ a, a ≠ 5 → a ≠ 7 → a ≠ 10 → ra_g s25 179 a = ra_g σ 179 a := fun a h5 h7 h10 => ((fun a h7 h10 => he28 a h7) a h7 h10).trans (hg22 a h5 h7 h10)
      have ho35 : ∀ a, a ≠ 7 → a ≠ 10 → ra_g s25 179 a = ra_g σ 179 a := fun a h7 h10 => ((fun a h7 h10 => he28 a h7) a h7 h10).trans (ho23 a h7 h10)
      refine ra_ifeq rfl rfl (ra_in01 hz26) (fun h36 => ?_) (fun h36 => ?_)
      · refine ra_load rfl rfl rfl rfl ?_
        have hp := hz26o (by omega)
        have hst := hz11p.mpr hp
        have hq := WF_p hw hp.1 hp.2.1 hp.2.2
        have hb0 : s25 180 = σ 180 := hk30
        have hb4 : s25 184 = σ 184 := hk32
        have hb5 : ra_g s25 179 5 = ra_g σ 179 5 := ho35 5 (by decide) (by decide)
        refine ra_cV (s5_197 (WF_k hk30 hw) (PW_k hpw (ho35 5 (by decide) (by decide)) hk32)) rfl (ct_197 rfl lk_8_366 (Or.inl rfl) sh_179 (Nat.le_of_ble_eq_true rfl)) (fun s37 hs37 => ?_)
        obtain ⟨hf38, hc39, hc40, hc41, hc42, he43, he44, he45⟩ := hs37
        have hF46 := Fr_tr (lo := 179) (hi := 191) hF29 hf38 (by omega)
        have hk47 : s37 (180) = σ (180) := hc39.trans hk30
        have hk48 : s37 (183) = σ (183) := hc42.trans hk31
        have hk49 : s37 (187) = σ (187) := (hf38 (187) (by omega)).trans hk33
        have hg50 : ∀ a, a ≠ 5 → a ≠ 7 → a ≠ 10 → ra_g s37 179 a = ra_g σ 179 a := fun a h5 h7 h10 => ((fun a h5 h7 h10 => he43 a h5) a h5 h7 h10).trans (hg34 a h5 h7 h10)
        refine ra_load rfl rfl rfl rfl ?_
        refine ra_load rfl rfl rfl rfl ?_
        refine ra_iconst rfl ?_
        refine ra_iconst rfl ?_
        refine ra_cV (sp_201 hx0 (by first | omega | (unfold ra_in at *; omega)) (by first | omega | (unfold ra_in at *; omega)) (by first | assumption | rfl | omega)) rfl (ct_201 rfl lk_8_78 (Or.inl rfl) sh_179 (Nat.le_of_ble_eq_true rfl)) (fun s51 hs51 => ?_)
        obtain ⟨hf52, he53, he54⟩ := hs51
        have hF55 := Fr_tr (lo := 179) (hi := 191) hF46 hf52 (by omega)
        have hk56 : s51 (183) = σ (183) := (hf52 (183) (by omega)).trans hk48
        have hk57 : s51 (187) = σ (187) := (hf52 (187) (by omega)).trans hk49
        have hg58 : ∀ a, a ≠ 5 → a ≠ 7 → a ≠ 10 → ra_g s51 179 a = ra_g σ 179 a := fun a h5 h7 h10 => (ra_gk (hf52 179 (by omega))).trans (hg50 a h5 h7 h10)
        refine ra_load rfl rfl rfl rfl ?_
        refine ra_load rfl rfl rfl rfl ?_
        refine ra_iconst rfl ?_
        refine ra_cTp (sp_200 hx0 (by first | omega | (unfold ra_in at *; omega)) (by first | assumption | rfl | omega)) rfl (ct_200 rfl lk_8_67 (Or.inl rfl) sh_179 (Nat.le_of_ble_eq_true rfl)) ?_
        have hr60 : ra_in (wq s51 x0 (2)) := (ra_in_wq _ _ _)
        exact ra_ireturn rfl rfl ⟨⟨_, hr60, (by exfalso; omega), rfl⟩, ⟨hF55, hk56, hk57, hg58, (by first | (exfalso; omega) | exact WF_chg (p := x0) (WF_k hk47 hw) ⟨by omega, by omega⟩ (fun a ha hn => he54 a (by omega)) (by rw [ra_gk hk47]; exact hfx.2) (Or.inl he53)), (PW_k he44 (ra_gk (hf52 179 (by omega))) (hf52 184 (by omega)))⟩⟩
      · refine ra_iconst rfl ?_
        exact ra_ireturn rfl rfl ⟨⟨_, (by first | omega | (unfold ra_in at *; omega)), (x5roF (k := 2) (x5cif_y (fun q => hz26q.1 (by omega) q)) (by decide) (hz26q.2.1 (by omega)) hk30 (ho35 5 (by decide) (by decide)) hk32), rfl⟩, ⟨hF29, hk31, hk33, hg34, (WF_k hk30 hw), (PW_k hpw (ho35 5 (by decide) (by decide)) hk32)⟩⟩
  · refine ra_load rfl rfl rfl rfl ?_
    refine ra_load rfl rfl rfl rfl ?_
    refine ra_cQPp (s5_206 hx0 (by first | assumption | rfl | omega)) rfl (ct_206 rfl lk_8_355 (Or.inl rfl) sh_179 (Nat.le_of_ble_eq_true rfl)) (fun z62 hz62 hz62p => ?_)
    have hz62o := hz62p.1
    have hz62q := hz62p.2
    clear hz62p
    refine ra_ifeq rfl rfl (ra_in01 hz62) (fun h63 => ?_) (fun h63 => ?_)
    · refine ra_iconst rfl ?_
      refine ra_iconst rfl ?_
      refine ra_cT (s5_194 (Or.inl rfl) (by first | omega | (unfold ra_in at *; omega))) rfl (ct_194 rfl lk_8_303 (Or.inl rfl) sh_179 (Nat.le_of_ble_eq_true rfl)) (fun s64 hs64 => ?_)
      obtain ⟨hf65, he66, he67⟩ := hs64
      have hF68 := Fr_tr (lo := 179) (hi := 191) hF3 hf65 (by omega)
      have hk69 : s64 (180) = σ (180) := (hf65 (180) (by omega)).trans hk4
      have hk70 : s64 (183) = σ (183) := (hf65 (183) (by omega)).trans hk5
      have hk71 : s64 (184) = σ (184) := (hf65 (184) (by omega)).trans hk6
      have hk72 : s64 (187) = σ (187) := (hf65 (187) (by omega)).trans hk7
      have hg73 : ∀ a, a ≠ 5 → a ≠ 7 → a ≠ 10 → ra_g s64 179 a = ra_g σ 179 a := fun a h5 h7 h10 => ((fun a h7 h10 => he66 a h7) a h7 h10).trans (hg8 a h5 h7 h10)
      have ho74 : ∀ a, a ≠ 7 → a ≠ 10 → ra_g s64 179 a = ra_g σ 179 a := fun a h7 h10 => ((fun a h7 h10 => he66 a h7) a h7 h10).trans (ho9 a h7 h10)
      refine ra_ifne rfl rfl (by first | omega | (unfold ra_in at *; omega)) (fun h75 => ?_) (fun h75 => ?_)
      · exact absurd h75 (by decide)
      · refine ra_load rfl rfl rfl rfl ?_
        refine ra_load rfl rfl rfl rfl ?_
        refine ra_iconst rfl ?_
        refine ra_cQPs (s5_268 hx0 (by first | omega | (unfold ra_in at *; omega))) rfl (ct_268 rfl lk_8_318 (Or.inl rfl) sh_179 (Nat.le_of_ble_eq_true rfl)) (fun z77 s76 hz77 hz77p hs76 => ?_)
        rw [wq_k hk69] at hz77p
        have hz77o := hz77p.1
        have hz77q := hz77p.2
        clear hz77p
        obtain ⟨hf78, he79⟩ := hs76
        have hF80 := Fr_tr (lo := 179) (hi := 191) hF68 hf78 (by omega)
        have hk81 : s76 (180) = σ (180) := (hf78 (180) (by omega)).trans hk69
        have hk82 : s76 (183) = σ (183) := (hf78 (183) (by omega)).trans hk70
        have hk83 : s76 (184) = σ (184) := (hf78 (184) (by omega)).trans hk71
        have hk84 : s76 (187) = σ (187) := (hf78 (187) (by omega)).trans hk72
        have hg85 : ∀ a, a ≠ 5 → a ≠ 7 → a ≠ 10 → ra_g s76 179 a = ra_g σ 179 a := fun a h5 h7 h10 => ((fun a h7 h10 => he79 a h7) a h7 h10).trans (hg73 a h5 h7 h10)
        have ho86 : ∀ a, a ≠ 7 → a ≠ 10 → ra_g s76 179 a = ra_g σ 179 a := fun a h7 h10 => ((fun a h7 h10 => he79 a h7) a h7 h10).trans (ho74 a h7 h10)
        refine ra_ifeq rfl rfl (ra_in01 hz77) (fun h87 => ?_) (fun h87 => ?_)
        · refine ra_load rfl rfl rfl rfl ?_
          have hp := hz77o (by omega)
          have hst := hz11p.mpr hp
          have hfx := hz62o (by omega)
          rw [wq_k hk4, ra_gk hk4] at hfx
          have hq := WF_p hw hp.1 hp.2.1 hp.2.2
          have hb0 : s76 180 = σ 180 := hk81
          have hb4 : s76 184 = σ 184 := hk83
          have hb5 : ra_g s76 179 5 = ra_g σ 179 5 := ho86 5 (by decide) (by decide)
          refine ra_cV (s5_197 (WF_k hk81 hw) (PW_k hpw (ho86 5 (by decide) (by decide)) hk83)) rfl (ct_197 rfl lk_8_366 (Or.inl rfl) sh_179 (Nat.le_of_ble_eq_true rfl)) (fun s88 hs88 => ?_)
          obtain ⟨hf89, hc90, hc91, hc92, hc93, he94, he95, he96⟩ := hs88
          have hF97 := Fr_tr (lo := 179) (hi := 191) hF80 hf89 (by omega)
          have hk98 : s88 (180) = σ (180) := hc90.trans hk81
          have hk99 : s88 (183) = σ (183) := hc93.trans hk82
          have hk100 : s88 (187) = σ (187) := (hf89 (187) (by omega)).trans hk84
          have hg101 : ∀ a, a ≠ 5 → a ≠ 7 → a ≠ 10 → ra_g s88 179 a = ra_g σ 179 a := fun a h5 h7 h10 => ((fun a h5 h7 h10 => he94 a h5) a h5 h7 h10).trans (hg85 a h5 h7 h10)
          refine ra_load rfl rfl rfl rfl ?_
          refine ra_load rfl rfl rfl rfl ?_
          refine ra_iconst rfl ?_
          refine ra_iconst rfl ?_
          refine ra_cV (sp_201 hx0 (by first | omega | (unfold ra_in at *; omega)) (by first | omega | (unfold ra_in at *; omega)) (by first | assumption | rfl | omega)) rfl (ct_201 rfl lk_8_78 (Or.inl rfl) sh_179 (Nat.le_of_ble_eq_true rfl)) (fun s102 hs102 => ?_)
          obtain ⟨hf103, he104, he105⟩ := hs102
          have hF106 := Fr_tr (lo := 179) (hi := 191) hF97 hf103 (by omega)
          have hk107 : s102 (183) = σ (183) := (hf103 (183) (by omega)).trans hk99
          have hk108 : s102 (187) = σ (187) := (hf103 (187) (by omega)).trans hk100
          have hg109 : ∀ a, a ≠ 5 → a ≠ 7 → a ≠ 10 → ra_g s102 179 a = ra_g σ 179 a := fun a h5 h7 h10 => (ra_gk (hf103 179 (by omega))).trans (hg101 a h5 h7 h10)
          refine ra_load rfl rfl rfl rfl ?_
          refine ra_load rfl rfl rfl rfl ?_
          refine ra_iconst rfl ?_
          refine ra_cTp (sp_200 hx0 (by first | omega | (unfold ra_in at *; omega)) (by first | assumption | rfl | omega)) rfl (ct_200 rfl lk_8_67 (Or.inl rfl) sh_179 (Nat.le_of_ble_eq_true rfl)) ?_
          have hr111 : ra_in (wq s102 x0 (2)) := (ra_in_wq _ _ _)
          exact ra_ireturn rfl rfl ⟨⟨_, hr111, (x5roY ((x5cif_n (fun q => q hp)).trans (x5cif_n (fun q9 => Or.elim q9 hfx.1 hfx.2))) ((ra_gk (hf103 (179) (by omega))).trans ((he94 7 (by decide)).trans ((hz77q.2.2 (by omega)).trans ((he67.2 rfl).trans hp2)))) (show ra_g s102 180 (24 + 8 * x0 + 2).toNat = ra_g σ 180 (24 + 8 * x0 + 2).toNat from ((he105 (24 + 8 * x0 + 2).toNat (by omega)).trans ((ra_gk hc90).trans ((ra_gk (hf78 (180) (by omega))).trans ((ra_gk (hf65 (180) (by omega))).trans (ra_gk (hs1 (180) (by omega)))))))) (x5sc_up (SC_tr (SC_tr (SC_tr (SC_tr SC_rf (SC_k (hs1 180 (by omega)))) (SC_k (hf65 180 (by omega)))) (SC_k (hf78 180 (by omega)))) (SC_k hc90)) he104 he105) (x5psh_k (x5psh_s hb5 hb4 hb0 he96) (ra_gk (hf103 179 (by omega))) (hf103 184 (by omega)))), rfl⟩, ⟨hF106, hk107, hk108, hg109, (by first | (exfalso; omega) | exact WF_chg (p := x0) (WF_k hk98 hw) ⟨by omega, by omega⟩ (fun a ha hn => he105 a (by omega)) (by rw [ra_gk hk98]; exact hfx.2) (Or.inl he104)), (PW_k he95 (ra_gk (hf103 179 (by omega))) (hf103 184 (by omega)))⟩⟩
        · refine ra_iconst rfl ?_
          exact ra_ireturn rfl rfl ⟨⟨_, (by first | omega | (unfold ra_in at *; omega)), (x5roF (k := 2) (x5cif_y (fun q => hz77q.1 (by omega) q)) (by decide) (hz77q.2.1 (by omega)) hk81 (ho86 5 (by decide) (by decide)) hk83), rfl⟩, ⟨hF80, hk82, hk84, hg85, (WF_k hk81 hw), (PW_k hpw (ho86 5 (by decide) (by decide)) hk83)⟩⟩
    · refine ra_iconst rfl ?_
      refine ra_goto rfl rfl ?_
      refine ra_iconst rfl ?_
      refine ra_cT (s5_194 (Or.inr rfl) (by first | omega | (unfold ra_in at *; omega))) rfl (ct_194 rfl lk_8_303 (Or.inl rfl) sh_179 (Nat.le_of_ble_eq_true rfl)) (fun s112 hs112 => ?_)
      obtain ⟨hf113, he114, he115⟩ := hs112
      have hF116 := Fr_tr (lo := 179) (hi := 191) hF3 hf113 (by omega)
      have hk117 : s112 (180) = σ (180) := (hf113 (180) (by omega)).trans hk4
      have hk118 : s112 (183) = σ (183) := (hf113 (183) (by omega)).trans hk5
      have hk119 : s112 (184) = σ (184) := (hf113 (184) (by omega)).trans hk6
      have hk120 : s112 (187) = σ (187) := (hf113 (187) (by omega)).trans hk7
      have hg121 : ∀ a, a ≠ 5 → a ≠ 7 → a ≠ 10 → ra_g s112 179 a = ra_g σ 179 a := fun a h5 h7 h10 => ((fun a h7 h10 => he114 a h7) a h7 h10).trans (hg8 a h5 h7 h10)
      have ho122 : ∀ a, a ≠ 7 → a ≠ 10 → ra_g s112 179 a = ra_g σ 179 a := fun a h7 h10 => ((fun a h7 h10 => he114 a h7) a h7 h10).trans (ho9 a h7 h10)
      refine ra_ifne rfl rfl (by first | omega | (unfold ra_in at *; omega)) (fun h123 => ?_) (fun h123 => ?_)
      · refine ra_iconst rfl ?_
        exact ra_ireturn rfl rfl ⟨⟨_, (by first | omega | (unfold ra_in at *; omega)), (x5roF (k := 1) ((x5cif_n (fun q => q (show x5EX σ x0 from hz11p.mp (by omega)))).trans (x5cif_y (by have q9 := hz62q (by omega); rw [x5fx_k hk4] at q9; exact q9))) (by decide) (he115.1 rfl) hk117 (ho122 5 (by decide) (by decide)) hk119), rfl⟩, ⟨hF116, hk118, hk120, hg121, (WF_k hk117 hw), (PW_k hpw (ho122 5 (by decide) (by decide)) hk119)⟩⟩
      · exact absurd h123 (by decide)
theorem s5_300 {n : Nat} {f : Nat → Int32} {d : Nat} {x0 : Int} {x1 : Int} {σ : ra_V} (hx0 : ra_in x0) (hx1 : x1 = 0 ∨ x1 = 1) (hw : WF σ) (hpw : PW σ) (h3 : x5W3 σ) : ra_C (g_Gs n f) g_sh 0 (d + 4) 300 [.index (179), ra_I x0, ra_I x1] σ (fun r9 s => (∃ z : Int, (z = 0 ∨ z = 1) ∧ (x5RO (x5dcLk σ x0) (fun z => z = wq σ x0 5) (x5up σ (24 + 8 * x0 + 5).toNat x1) σ s z) ∧ r9 = .inl (some (ra_I z))) ∧ Fr (179) (191) σ s ∧ s (183) = σ (183) ∧ s (187) = σ (187) ∧ (∀ a, a ≠ 5 → a ≠ 7 → a ≠ 10 → ra_g s 179 a = ra_g σ 179 a) ∧ WF s ∧ PW s) := by
  refine ra_enter (nn := 1) mt_300 rfl (Nat.le_of_ble_eq_true rfl) rfl (fun h => absurd h (by decide +kernel)) ?_
  have hw0 := WF_a hw
  unfold WFa at hw0
  refine ra_load rfl rfl rfl rfl ?_
  refine ra_iconst rfl ?_
  refine ra_putI rfl lk_8_51 (Nat.zero_le _) sh_179 rfl rfl ?_
  refine ra_newU (by first | omega | (unfold ra_in at *; omega)) (fun s1 hs1 hp2 hp2o => ?_)
  have hp2_99 := hp2o 99 (by decide)
  have hF3 := Fr_tr (lo := 179) (hi := 191) Fr_rf hs1 (by omega)
  have hk4 : s1 (180) = σ (180) := (hs1 (180) (by omega))
  have hk5 : s1 (183) = σ (183) := (hs1 (183) (by omega))
  have hk6 : s1 (184) = σ (184) := (hs1 (184) (by omega))
  have hk7 : s1 (187) = σ (187) := (hs1 (187) (by omega))
  have hg8 : ∀ a, a ≠ 5 → a ≠ 7 → a ≠ 10 → ra_g s1 179 a = ra_g σ 179 a := fun a h5 h7 h10 => ((fun a h7 h10 => hp2o a h7) a h7 h10).trans ((fun _ _ _ _ => rfl) a h5 h7 h10)
  have ho9 : ∀ a, a ≠ 7 → a ≠ 10 → ra_g s1 179 a = ra_g σ 179 a := fun a h7 h10 => ((fun a h7 h10 => hp2o a h7) a h7 h10).trans ((fun _ _ _ => rfl) a h7 h10)
  refine ra_load rfl rfl rfl rfl ?_
  refine ra_load rfl rfl rfl rfl ?_
  refine ra_iconst rfl ?_
  refine ra_cQPs (s5_268 hx0 (by first | omega | (unfold ra_in at *; omega))) rfl (ct_268 rfl lk_8_318 (Or.inl rfl) sh_179 (Nat.le_of_ble_eq_true rfl)) (fun z11 s10 hz11 hz11p hs10 => ?_)
  rw [wq_k hk4] at hz11p
  have hz11o := hz11p.1
  have hz11q := hz11p.2
  clear hz11p
  obtain ⟨hf12, he13⟩ := hs10
  have hF14 := Fr_tr (lo := 179) (hi := 191) hF3 hf12 (by omega)
  have hk15 : s10 (180) = σ (180) := (hf12 (180) (by omega)).trans hk4
  have hk16 : s10 (183) = σ (183) := (hf12 (183) (by omega)).trans hk5
  have hk17 : s10 (184) = σ (184) := (hf12 (184) (by omega)).trans hk6
  have hk18 : s10 (187) = σ (187) := (hf12 (187) (by omega)).trans hk7
  have hg19 : ∀ a, a ≠ 5 → a ≠ 7 → a ≠ 10 → ra_g s10 179 a = ra_g σ 179 a := fun a h5 h7 h10 => ((fun a h7 h10 => he13 a h7) a h7 h10).trans (hg8 a h5 h7 h10)
  have ho20 : ∀ a, a ≠ 7 → a ≠ 10 → ra_g s10 179 a = ra_g σ 179 a := fun a h7 h10 => ((fun a h7 h10 => he13 a h7) a h7 h10).trans (ho9 a h7 h10)
  refine ra_ifeq rfl rfl (ra_in01 hz11) (fun h21 => ?_) (fun h21 => ?_)
  · refine ra_load rfl rfl rfl rfl ?_
    have hp := hz11o (by omega)
    have hq := WF_p hw hp.1 hp.2.1 hp.2.2
    have hb0 : s10 180 = σ 180 := hk15
    have hb4 : s10 184 = σ 184 := hk17
    have hb5 : ra_g s10 179 5 = ra_g σ 179 5 := ho20 5 (by decide) (by decide)
    refine ra_cV (s5_197 (WF_k hk15 hw) (PW_k hpw (ho20 5 (by decide) (by decide)) hk17)) rfl (ct_197 rfl lk_8_366 (Or.inl rfl) sh_179 (Nat.le_of_ble_eq_true rfl)) (fun s22 hs22 => ?_)
    obtain ⟨hf23, hc24, hc25, hc26, hc27, he28, he29, he30⟩ := hs22
    have hF31 := Fr_tr (lo := 179) (hi := 191) hF14 hf23 (by omega)
    have hk32 : s22 (180) = σ (180) := hc24.trans hk15
    have hk33 : s22 (183) = σ (183) := hc27.trans hk16
    have hk34 : s22 (187) = σ (187) := (hf23 (187) (by omega)).trans hk18
    have hg35 : ∀ a, a ≠ 5 → a ≠ 7 → a ≠ 10 → ra_g s22 179 a = ra_g σ 179 a := fun a h5 h7 h10 => ((fun a h5 h7 h10 => he28 a h5) a h5 h7 h10).trans (hg19 a h5 h7 h10)
    refine ra_load rfl rfl rfl rfl ?_
    refine ra_load rfl rfl rfl rfl ?_
    refine ra_iconst rfl ?_
    refine ra_cTp (sp_200 hx0 (by first | omega | (unfold ra_in at *; omega)) (by first | assumption | rfl | omega)) rfl (ct_200 rfl lk_8_67 (Or.inl rfl) sh_179 (Nat.le_of_ble_eq_true rfl)) ?_
    rw [wq_k hk32]
    have hr37 : ra_in (wq σ x0 (5)) := (ra_in_wq _ _ _)
    refine ra_iconst rfl ?_
    refine ra_icne rfl rfl hr37 (by first | omega | (unfold ra_in at *; omega)) (fun h38 => ?_) (fun h38 => ?_)
    · refine ra_iconst rfl ?_
      refine ra_store (L' := [_, _, _, _]) rfl rfl rfl (Nat.le_of_ble_eq_true rfl) rfl ?_
      refine ra_load rfl rfl rfl rfl ?_
      refine ra_load rfl rfl rfl rfl ?_
      refine ra_iconst rfl ?_
      refine ra_load rfl rfl rfl rfl ?_
      refine ra_ifeq rfl rfl (ra_in01 hx1) (fun h39 => ?_) (fun h39 => ?_)
      · refine ra_iconst rfl ?_
        refine ra_cV (sp_201 hx0 (by first | omega | (unfold ra_in at *; omega)) (by first | omega | (unfold ra_in at *; omega)) (by first | assumption | rfl | omega)) rfl (ct_201 rfl lk_8_78 (Or.inl rfl) sh_179 (Nat.le_of_ble_eq_true rfl)) (fun s40 hs40 => ?_)
        obtain ⟨hf41, he42, he43⟩ := hs40
        have hF44 := Fr_tr (lo := 179) (hi := 191) hF31 hf41 (by omega)
        have hk45 : s40 (183) = σ (183) := (hf41 (183) (by omega)).trans hk33
        have hk46 : s40 (187) = σ (187) := (hf41 (187) (by omega)).trans hk34
        have hg47 : ∀ a, a ≠ 5 → a ≠ 7 → a ≠ 10 → ra_g s40 179 a = ra_g σ 179 a := fun a h5 h7 h10 => (ra_gk (hf41 179 (by omega))).trans (hg35 a h5 h7 h10)
        refine ra_load rfl rfl rfl rfl ?_
        exact ra_ireturn rfl (ra_okB (Or.inl rfl)) ⟨⟨_, (Or.inl rfl), (x5roY (x5cif_n (fun q => q hp)) ((ra_gk (hf41 (179) (by omega))).trans ((he28 7 (by decide)).trans ((hz11q.2.2 (by omega)).trans hp2))) (by have q9 := h3.1 x0 hp.1 hp.2.1; have q8 : wq s22 x0 5 = wq σ x0 5 := wq_k hk32; show _ = wq σ x0 5; omega) (x5sc_up (SC_tr (SC_tr (SC_tr SC_rf (SC_k (hs1 180 (by omega)))) (SC_k (hf12 180 (by omega)))) (SC_k hc24)) (he42.trans (by omega)) he43) (x5psh_k (x5psh_s hb5 hb4 hb0 he30) (ra_gk (hf41 179 (by omega))) (hf41 184 (by omega)))), rfl⟩, ⟨hF44, hk45, hk46, hg47, (WF_rel (fun a ha => he43 a (by unfold REL at ha; omega)) (WF_k hk32 hw)), (PW_k he29 (ra_gk (hf41 179 (by omega))) (hf41 184 (by omega)))⟩⟩
      · refine ra_iconst rfl ?_
        refine ra_goto rfl rfl ?_
        refine ra_cV (sp_201 hx0 (by first | omega | (unfold ra_in at *; omega)) (by first | omega | (unfold ra_in at *; omega)) (by first | assumption | rfl | omega)) rfl (ct_201 rfl lk_8_78 (Or.inl rfl) sh_179 (Nat.le_of_ble_eq_true rfl)) (fun s48 hs48 => ?_)
        obtain ⟨hf49, he50, he51⟩ := hs48
        have hF52 := Fr_tr (lo := 179) (hi := 191) hF31 hf49 (by omega)
        have hk53 : s48 (183) = σ (183) := (hf49 (183) (by omega)).trans hk33
        have hk54 : s48 (187) = σ (187) := (hf49 (187) (by omega)).trans hk34
        have hg55 : ∀ a, a ≠ 5 → a ≠ 7 → a ≠ 10 → ra_g s48 179 a = ra_g σ 179 a := fun a h5 h7 h10 => (ra_gk (hf49 179 (by omega))).trans (hg35 a h5 h7 h10)
        refine ra_load rfl rfl rfl rfl ?_
        exact ra_ireturn rfl (ra_okB (Or.inl rfl)) ⟨⟨_, (Or.inl rfl), (x5roY (x5cif_n (fun q => q hp)) ((ra_gk (hf49 (179) (by omega))).trans ((he28 7 (by decide)).trans ((hz11q.2.2 (by omega)).trans hp2))) (by have q9 := h3.1 x0 hp.1 hp.2.1; have q8 : wq s22 x0 5 = wq σ x0 5 := wq_k hk32; show _ = wq σ x0 5; omega) (x5sc_up (SC_tr (SC_tr (SC_tr SC_rf (SC_k (hs1 180 (by omega)))) (SC_k (hf12 180 (by omega)))) (SC_k hc24)) (he50.trans (by omega)) he51) (x5psh_k (x5psh_s hb5 hb4 hb0 he30) (ra_gk (hf49 179 (by omega))) (hf49 184 (by omega)))), rfl⟩, ⟨hF52, hk53, hk54, hg55, (WF_rel (fun a ha => he51 a (by unfold REL at ha; omega)) (WF_k hk32 hw)), (PW_k he29 (ra_gk (hf49 179 (by omega))) (hf49 184 (by omega)))⟩⟩
    · refine ra_iconst rfl ?_
      refine ra_goto rfl rfl ?_
      refine ra_store (L' := [_, _, _, _]) rfl rfl rfl (Nat.le_of_ble_eq_true rfl) rfl ?_
      refine ra_load rfl rfl rfl rfl ?_
      refine ra_load rfl rfl rfl rfl ?_
      refine ra_iconst rfl ?_
      refine ra_load rfl rfl rfl rfl ?_
      refine ra_ifeq rfl rfl (ra_in01 hx1) (fun h56 => ?_) (fun h56 => ?_)
      · refine ra_iconst rfl ?_
        refine ra_cV (sp_201 hx0 (by first | omega | (unfold ra_in at *; omega)) (by first | omega | (unfold ra_in at *; omega)) (by first | assumption | rfl | omega)) rfl (ct_201 rfl lk_8_78 (Or.inl rfl) sh_179 (Nat.le_of_ble_eq_true rfl)) (fun s57 hs57 => ?_)
        obtain ⟨hf58, he59, he60⟩ := hs57
        have hF61 := Fr_tr (lo := 179) (hi := 191) hF31 hf58 (by omega)
        have hk62 : s57 (183) = σ (183) := (hf58 (183) (by omega)).trans hk33
        have hk63 : s57 (187) = σ (187) := (hf58 (187) (by omega)).trans hk34
        have hg64 : ∀ a, a ≠ 5 → a ≠ 7 → a ≠ 10 → ra_g s57 179 a = ra_g σ 179 a := fun a h5 h7 h10 => (ra_gk (hf58 179 (by omega))).trans (hg35 a h5 h7 h10)
        refine ra_load rfl rfl rfl rfl ?_
        exact ra_ireturn rfl (ra_okB (Or.inr rfl)) ⟨⟨_, (Or.inr rfl), (x5roY (x5cif_n (fun q => q hp)) ((ra_gk (hf58 (179) (by omega))).trans ((he28 7 (by decide)).trans ((hz11q.2.2 (by omega)).trans hp2))) (by have q9 := h3.1 x0 hp.1 hp.2.1; have q8 : wq s22 x0 5 = wq σ x0 5 := wq_k hk32; show _ = wq σ x0 5; omega) (x5sc_up (SC_tr (SC_tr (SC_tr SC_rf (SC_k (hs1 180 (by omega)))) (SC_k (hf12 180 (by omega)))) (SC_k hc24)) (he59.trans (by omega)) he60) (x5psh_k (x5psh_s hb5 hb4 hb0 he30) (ra_gk (hf58 179 (by omega))) (hf58 184 (by omega)))), rfl⟩, ⟨hF61, hk62, hk63, hg64, (WF_rel (fun a ha => he60 a (by unfold REL at ha; omega)) (WF_k hk32 hw)), (PW_k he29 (ra_gk (hf58 179 (by omega))) (hf58 184 (by omega)))⟩⟩
      · refine ra_iconst rfl ?_
        refine ra_goto rfl rfl ?_
        refine ra_cV (sp_201 hx0 (by first | omega | (unfold ra_in at *; omega)) (by first | omega | (unfold ra_in at *; omega)) (by first | assumption | rfl | omega)) rfl (ct_201 rfl lk_8_78 (Or.inl rfl) sh_179 (Nat.le_of_ble_eq_true rfl)) (fun s65 hs65 => ?_)
        obtain ⟨hf66, he67, he68⟩ := hs65
        have hF69 := Fr_tr (lo := 179) (hi := 191) hF31 hf66 (by omega)
        have hk70 : s65 (183) = σ (183) := (hf66 (183) (by omega)).trans hk33
        have hk71 : s65 (187) = σ (187) := (hf66 (187) (by omega)).trans hk34
        have hg72 : ∀ a, a ≠ 5 → a ≠ 7 → a ≠ 10 → ra_g s65 179 a = ra_g σ 179 a := fun a h5 h7 h10 => (ra_gk (hf66 179 (by omega))).trans (hg35 a h5 h7 h10)
        refine ra_load rfl rfl rfl rfl ?_
        exact ra_ireturn rfl (ra_okB (Or.inr rfl)) ⟨⟨_, (Or.inr rfl), (x5roY (x5cif_n (fun q => q hp)) ((ra_gk (hf66 (179) (by omega))).trans ((he28 7 (by decide)).trans ((hz11q.2.2 (by omega)).trans hp2))) (by have q9 := h3.1 x0 hp.1 hp.2.1; have q8 : wq s22 x0 5 = wq σ x0 5 := wq_k hk32; show _ = wq σ x0 5; omega) (x5sc_up (SC_tr (SC_tr (SC_tr SC_rf (SC_k (hs1 180 (by omega)))) (SC_k (hf12 180 (by omega)))) (SC_k hc24)) (he67.trans (by omega)) he68) (x5psh_k (x5psh_s hb5 hb4 hb0 he30) (ra_gk (hf66 179 (by omega))) (hf66 184 (by omega)))), rfl⟩, ⟨hF69, hk70, hk71, hg72, (WF_rel (fun a ha => he68 a (by unfold REL at ha; omega)) (WF_k hk32 hw)), (PW_k he29 (ra_gk (hf66 179 (by omega))) (hf66 184 (by omega)))⟩⟩
  · refine ra_iconst rfl ?_
    exact ra_ireturn rfl (ra_okB (Or.inl rfl)) ⟨⟨_, (Or.inl rfl), (x5roF (k := 1) (x5cif_y (fun q => hz11q.1 (by omega) q)) (by decide) (hz11q.2.1 (by omega)) hk15 (ho20 5 (by decide) (by decide)) hk17), rfl⟩, ⟨hF14, hk16, hk18, hg19, (WF_k hk15 hw), (PW_k hpw (ho20 5 (by decide) (by decide)) hk17)⟩⟩
theorem s5_307 {n : Nat} {f : Nat → Int32} {d : Nat} {x0 : Int} {x1 : Int} {σ : ra_V} (hx0 : ra_in x0) (hx1 : ra_in x1) (hw : WF σ) (hpw : PW σ) : ra_C (g_Gs n f) g_sh 0 (d + 4) 307 [.index (179), ra_I x0, ra_I x1] σ (fun r9 s => (∃ z, ra_in z ∧ (x5RO (x5dcMn σ x0 x1) (fun z => z = wq σ x0 3) (x5up σ (24 + 8 * x0 + 3).toNat x1) σ s z) ∧ r9 = .inl (some (ra_I z))) ∧ Fr (179) (191) σ s ∧ s (183) = σ (183) ∧ s (187) = σ (187) ∧ (∀ a, a ≠ 5 → a ≠ 7 → a ≠ 10 → ra_g s 179 a = ra_g σ 179 a) ∧ WF s ∧ PW s) := by
  refine ra_enter (nn := 1) mt_307 rfl (Nat.le_of_ble_eq_true rfl) rfl (fun h => absurd h (by decide +kernel)) ?_
  have hw0 := WF_a hw
  unfold WFa at hw0
  refine ra_load rfl rfl rfl rfl ?_
  refine ra_iconst rfl ?_
  refine ra_putI rfl lk_8_51 (Nat.zero_le _) sh_179 rfl rfl ?_
  refine ra_newU (by first | omega | (unfold ra_in at *; omega)) (fun s1 hs1 hp2 hp2o => ?_)
  have hp2_99 := hp2o 99 (by decide)
  have hF3 := Fr_tr (lo := 179) (hi := 191) Fr_rf hs1 (by omega)
  have hk4 : s1 (180) = σ (180) := (hs1 (180) (by omega))
  have hk5 : s1 (183) = σ (183) := (hs1 (183) (by omega))
  have hk6 : s1 (184) = σ (184) := (hs1 (184) (by omega))
  have hk7 : s1 (187) = σ (187) := (hs1 (187) (by omega))
  have hg8 : ∀ a, a ≠ 5 → a ≠ 7 → a ≠ 10 → ra_g s1 179 a = ra_g σ 179 a := fun a h5 h7 h10 => ((fun a h7 h10 => hp2o a h7) a h7 h10).trans ((fun _ _ _ _ => rfl) a h5 h7 h10)
  have ho9 : ∀ a, a ≠ 7 → a ≠ 10 → ra_g s1 179 a = ra_g σ 179 a := fun a h7 h10 => ((fun a h7 h10 => hp2o a h7) a h7 h10).trans ((fun _ _ _ => rfl) a h7 h10)
  refine ra_load rfl rfl rfl rfl ?_
  refine ra_load rfl rfl rfl rfl ?_
  refine ra_load rfl rfl rfl rfl ?_
  refine ra_cQPp (sp_202 hx0) rfl (ct_202 rfl lk_8_313 (Or.inl rfl) sh_179 (Nat.le_of_ble_eq_true rfl)) (fun z11 hz11 hz11p => ?_)
  rw [wq_k hk4] at hz11p
  refine ra_ifeq rfl rfl (ra_in01 hz11) (fun h12 => ?_) (fun h12 => ?_)
  · refine ra_iconst rfl ?_
    refine ra_iconst rfl ?_
    refine ra_cT (s5_194 (Or.inl rfl) (by first | omega | (unfold ra_in at *; omega))) rfl (ct_194 rfl lk_8_303 (Or.inl rfl) sh_179 (Nat.le_of_ble_eq_true rfl)) (fun s13 hs13 => ?_)
    obtain ⟨hf14, he15, he16⟩ := hs13
    have hF17 := Fr_tr (lo := 179) (hi := 191) hF3 hf14 (by omega)
    have hk18 : s13 (180) = σ (180) := (hf14 (180) (by omega)).trans hk4
    have hk19 : s13 (183) = σ (183) := (hf14 (183) (by omega)).trans hk5
    have hk20 : s13 (184) = σ (184) := (hf14 (184) (by omega)).trans hk6
    have hk21 : s13 (187) = σ (187) := (hf14 (187) (by omega)).trans hk7
    have hg22 : ∀ a, a ≠ 5 → a ≠ 7 → a ≠ 10 → ra_g s13 179 a = ra_g σ 179 a := fun a h5 h7 h10 => ((fun a h7 h10 => he15 a h7) a h7 h10).trans (hg8 a h5 h7 h10)
    have ho23 : ∀ a, a ≠ 7 → a ≠ 10 → ra_g s13 179 a = ra_g σ 179 a := fun a h7 h10 => ((fun a h7 h10 => he15 a h7) a h7 h10).trans (ho9 a h7 h10)
    refine ra_ifne rfl rfl (by first | omega | (unfold ra_in at *; omega)) (fun h24 => ?_) (fun h24 => ?_)
    · exact absurd h24 (by decide)
    · refine ra_load rfl rfl rfl rfl ?_
      refine ra_load rfl rfl rfl rfl ?_
      refine ra_iconst rfl ?_
      refine ra_cQPs (s5_268 hx0 (by first | omega | (unfold ra_in at *; omega))) rfl (ct_268 rfl lk_8_318 (Or.inl rfl) sh_179 (Nat.le_of_ble_eq_true rfl)) (fun z26 s25 hz26 hz26p hs25 => ?_)
      rw [wq_k hk18] at hz26p
      have hz26o := hz26p.1
      have hz26q := hz26p.2
      clear hz26p
      obtain ⟨hf27, he28⟩ := hs25
      have hF29 := Fr_tr (lo := 179) (hi := 191) hF17 hf27 (by omega)
      have hk30 : s25 (180) = σ (180) := (hf27 (180) (by omega)).trans hk18
      have hk31 : s25 (183) = σ (183) := (hf27 (183) (by omega)).trans hk19
      have hk32 : s25 (184) = σ (184) := (hf27 (184) (by omega)).trans hk20
      have hk33 : s25 (187) = σ (187) := (hf27 (187) (by omega)).trans hk21
      have hg34 : ∀ a, a ≠ 5 → a ≠ 7 → a ≠ 10 → ra_g s25 179 a = ra_g σ 179 a := fun a h5 h7 h10 => ((fun a h7 h10 => he28 a h7) a h7 h10).trans (hg22 a h5 h7 h10)
      have ho35 : ∀ a, a ≠ 7 → a ≠ 10 → ra_g s25 179 a = ra_g σ 179 a := fun a h7 h10 => ((fun a h7 h10 => he28 a h7) a h7 h10).trans (ho23 a h7 h10)
      refine ra_ifeq rfl rfl (ra_in01 hz26) (fun h36 => ?_) (fun h36 => ?_)
      · refine ra_load rfl rfl rfl rfl ?_
        have hp := hz26o (by omega)
        have hst := hz11p.mpr hp
        have hq := WF_p hw hp.1 hp.2.1 hp.2.2
        have hb0 : s25 180 = σ 180 := hk30
        have hb4 : s25 184 = σ 184 := hk32
        have hb5 : ra_g s25 179 5 = ra_g σ 179 5 := ho35 5 (by decide) (by decide)
        refine ra_cV (s5_197 (WF_k hk30 hw) (PW_k hpw (ho35 5 (by decide) (by decide)) hk32)) rfl (ct_197 rfl lk_8_366 (Or.inl rfl) sh_179 (Nat.le_of_ble_eq_true rfl)) (fun s37 hs37 => ?_)
        obtain ⟨hf38, hc39, hc40, hc41, hc42, he43, he44, he45⟩ := hs37
        have hF46 := Fr_tr (lo := 179) (hi := 191) hF29 hf38 (by omega)
        have hk47 : s37 (180) = σ (180) := hc39.trans hk30
        have hk48 : s37 (183) = σ (183) := hc42.trans hk31
        have hk49 : s37 (187) = σ (187) := (hf38 (187) (by omega)).trans hk33
        have hg50 : ∀ a, a ≠ 5 → a ≠ 7 → a ≠ 10 → ra_g s37 179 a = ra_g σ 179 a := fun a h5 h7 h10 => ((fun a h5 h7 h10 => he43 a h5) a h5 h7 h10).trans (hg34 a h5 h7 h10)
        refine ra_load rfl rfl rfl rfl ?_
        refine ra_load rfl rfl rfl rfl ?_
        refine ra_iconst rfl ?_
        refine ra_cTp (sp_200 hx0 (by first | omega | (unfold ra_in at *; omega)) (by first | assumption | rfl | omega)) rfl (ct_200 rfl lk_8_67 (Or.inl rfl) sh_179 (Nat.le_of_ble_eq_true rfl)) ?_
        rw [wq_k hk47]
        have hr52 : ra_in (wq σ x0 (3)) := (ra_in_wq _ _ _)
        refine ra_store (L' := [_, _, _, _]) rfl rfl rfl (Nat.le_of_ble_eq_true rfl) rfl ?_
        refine ra_load rfl rfl rfl rfl ?_
        refine ra_load rfl rfl rfl rfl ?_
        refine ra_iconst rfl ?_
        refine ra_load rfl rfl rfl rfl ?_
        refine ra_cV (sp_201 hx0 (by first | omega | (unfold ra_in at *; omega)) hx1 (by first | assumption | rfl | omega)) rfl (ct_201 rfl lk_8_78 (Or.inl rfl) sh_179 (Nat.le_of_ble_eq_true rfl)) (fun s53 hs53 => ?_)
        obtain ⟨hf54, he55, he56⟩ := hs53
        have hF57 := Fr_tr (lo := 179) (hi := 191) hF46 hf54 (by omega)
        have hk58 : s53 (183) = σ (183) := (hf54 (183) (by omega)).trans hk48
        have hk59 : s53 (187) = σ (187) := (hf54 (187) (by omega)).trans hk49
        have hg60 : ∀ a, a ≠ 5 → a ≠ 7 → a ≠ 10 → ra_g s53 179 a = ra_g σ 179 a := fun a h5 h7 h10 => (ra_gk (hf54 179 (by omega))).trans (hg50 a h5 h7 h10)
        refine ra_load rfl rfl rfl rfl ?_
        exact ra_ireturn rfl rfl ⟨⟨_, hr52, (x5roY ((x5cif_n (fun q => q hp)).trans (x5cif_n (fun q => q (by omega)))) ((ra_gk (hf54 (179) (by omega))).trans ((he43 7 (by decide)).trans ((hz26q.2.2 (by omega)).trans ((he16.2 rfl).trans hp2)))) (show (wq σ x0 (3)) = wq σ x0 3 from by first | rfl | rw [wq_k hk47]) (x5sc_up (SC_tr (SC_tr (SC_tr (SC_tr SC_rf (SC_k (hs1 180 (by omega)))) (SC_k (hf14 180 (by omega)))) (SC_k (hf27 180 (by omega)))) (SC_k hc39)) he55 he56) (x5psh_k (x5psh_s hb5 hb4 hb0 he45) (ra_gk (hf54 179 (by omega))) (hf54 184 (by omega)))), rfl⟩, ⟨hF57, hk58, hk59, hg60, (by first | (exfalso; omega) | exact WF_mn (p := x0) (WF_k hk47 hw) ⟨by omega, by omega⟩ (fun a hn => he56 a hn) (by have t := he55; rw [wq_k hk47]; omega)), (PW_k he44 (ra_gk (hf54 179 (by omega))) (hf54 184 (by omega)))⟩⟩
      · refine ra_iconst rfl ?_
        exact ra_ireturn rfl rfl ⟨⟨_, (by first | omega | (unfold ra_in at *; omega)), (x5roF (k := 2) (x5cif_y (fun q => hz26q.1 (by omega) q)) (by decide) (hz26q.2.1 (by omega)) hk30 (ho35 5 (by decide) (by decide)) hk32), rfl⟩, ⟨hF29, hk31, hk33, hg34, (WF_k hk30 hw), (PW_k hpw (ho35 5 (by decide) (by decide)) hk32)⟩⟩
  · refine ra_load rfl rfl rfl rfl ?_
    refine ra_i2l rfl hx1 ?_
    refine ra_lconst1 rfl ?_
    refine ra_load rfl rfl rfl rfl ?_
    refine ra_load rfl rfl rfl rfl ?_
    refine ra_iconst rfl ?_
    refine ra_cTp (sp_200 hx0 (by first | omega | (unfold ra_in at *; omega)) (by first | assumption | rfl | omega)) rfl (ct_200 rfl lk_8_67 (Or.inl rfl) sh_179 (Nat.le_of_ble_eq_true rfl)) ?_
    rw [wq_k hk4]
    have hr62 : ra_in (wq σ x0 (2)) := (ra_in_wq _ _ _)
    refine ra_i2l rfl hr62 ?_
    refine ra_cTp (sp_193 hx1 (by first | omega | (unfold ra_in at *; omega)) hr62) rfl (ct_193 rfl lk_8_63 (Or.inl rfl) (Nat.le_of_ble_eq_true rfl)) ?_
    refine ra_ifneB rfl rfl (fun h64 => ?_) (fun h64 => ?_)
    · refine ra_iconst rfl ?_
      refine ra_iconst rfl ?_
      refine ra_cT (s5_194 (Or.inl rfl) (by first | omega | (unfold ra_in at *; omega))) rfl (ct_194 rfl lk_8_303 (Or.inl rfl) sh_179 (Nat.le_of_ble_eq_true rfl)) (fun s65 hs65 => ?_)
      obtain ⟨hf66, he67, he68⟩ := hs65
      have hF69 := Fr_tr (lo := 179) (hi := 191) hF3 hf66 (by omega)
      have hk70 : s65 (180) = σ (180) := (hf66 (180) (by omega)).trans hk4
      have hk71 : s65 (183) = σ (183) := (hf66 (183) (by omega)).trans hk5
      have hk72 : s65 (184) = σ (184) := (hf66 (184) (by omega)).trans hk6
      have hk73 : s65 (187) = σ (187) := (hf66 (187) (by omega)).trans hk7
      have hg74 : ∀ a, a ≠ 5 → a ≠ 7 → a ≠ 10 → ra_g s65 179 a = ra_g σ 179 a := fun a h5 h7 h10 => ((fun a h7 h10 => he67 a h7) a h7 h10).trans (hg8 a h5 h7 h10)
      have ho75 : ∀ a, a ≠ 7 → a ≠ 10 → ra_g s65 179 a = ra_g σ 179 a := fun a h7 h10 => ((fun a h7 h10 => he67 a h7) a h7 h10).trans (ho9 a h7 h10)
      refine ra_ifne rfl rfl (by first | omega | (unfold ra_in at *; omega)) (fun h76 => ?_) (fun h76 => ?_)
      · exact absurd h76 (by decide)
      · refine ra_load rfl rfl rfl rfl ?_
        refine ra_load rfl rfl rfl rfl ?_
        refine ra_iconst rfl ?_
        refine ra_cQPs (s5_268 hx0 (by first | omega | (unfold ra_in at *; omega))) rfl (ct_268 rfl lk_8_318 (Or.inl rfl) sh_179 (Nat.le_of_ble_eq_true rfl)) (fun z78 s77 hz78 hz78p hs77 => ?_)
        rw [wq_k hk70] at hz78p
        have hz78o := hz78p.1
        have hz78q := hz78p.2
        clear hz78p
        obtain ⟨hf79, he80⟩ := hs77
        have hF81 := Fr_tr (lo := 179) (hi := 191) hF69 hf79 (by omega)
        have hk82 : s77 (180) = σ (180) := (hf79 (180) (by omega)).trans hk70
        have hk83 : s77 (183) = σ (183) := (hf79 (183) (by omega)).trans hk71
        have hk84 : s77 (184) = σ (184) := (hf79 (184) (by omega)).trans hk72
        have hk85 : s77 (187) = σ (187) := (hf79 (187) (by omega)).trans hk73
        have hg86 : ∀ a, a ≠ 5 → a ≠ 7 → a ≠ 10 → ra_g s77 179 a = ra_g σ 179 a := fun a h5 h7 h10 => ((fun a h7 h10 => he80 a h7) a h7 h10).trans (hg74 a h5 h7 h10)
        have ho87 : ∀ a, a ≠ 7 → a ≠ 10 → ra_g s77 179 a = ra_g σ 179 a := fun a h7 h10 => ((fun a h7 h10 => he80 a h7) a h7 h10).trans (ho75 a h7 h10)
        refine ra_ifeq rfl rfl (ra_in01 hz78) (fun h88 => ?_) (fun h88 => ?_)
        · refine ra_load rfl rfl rfl rfl ?_
          have hp := hz78o (by omega)
          have hst := hz11p.mpr hp
          have hq := WF_p hw hp.1 hp.2.1 hp.2.2
          have hb0 : s77 180 = σ 180 := hk82
          have hb4 : s77 184 = σ 184 := hk84
          have hb5 : ra_g s77 179 5 = ra_g σ 179 5 := ho87 5 (by decide) (by decide)
          refine ra_cV (s5_197 (WF_k hk82 hw) (PW_k hpw (ho87 5 (by decide) (by decide)) hk84)) rfl (ct_197 rfl lk_8_366 (Or.inl rfl) sh_179 (Nat.le_of_ble_eq_true rfl)) (fun s89 hs89 => ?_)
          obtain ⟨hf90, hc91, hc92, hc93, hc94, he95, he96, he97⟩ := hs89
          have hF98 := Fr_tr (lo := 179) (hi := 191) hF81 hf90 (by omega)
          have hk99 : s89 (180) = σ (180) := hc91.trans hk82
          have hk100 : s89 (183) = σ (183) := hc94.trans hk83
          have hk101 : s89 (187) = σ (187) := (hf90 (187) (by omega)).trans hk85
          have hg102 : ∀ a, a ≠ 5 → a ≠ 7 → a ≠ 10 → ra_g s89 179 a = ra_g σ 179 a := fun a h5 h7 h10 => ((fun a h5 h7 h10 => he95 a h5) a h5 h7 h10).trans (hg86 a h5 h7 h10)
          refine ra_load rfl rfl rfl rfl ?_
          refine ra_load rfl rfl rfl rfl ?_
          refine ra_iconst rfl ?_
          refine ra_cTp (sp_200 hx0 (by first | omega | (unfold ra_in at *; omega)) (by first | assumption | rfl | omega)) rfl (ct_200 rfl lk_8_67 (Or.inl rfl) sh_179 (Nat.le_of_ble_eq_true rfl)) ?_
          rw [wq_k hk99]
          have hr104 : ra_in (wq σ x0 (3)) := (ra_in_wq _ _ _)
          refine ra_store (L' := [_, _, _, _]) rfl rfl rfl (Nat.le_of_ble_eq_true rfl) rfl ?_
          refine ra_load rfl rfl rfl rfl ?_
          refine ra_load rfl rfl rfl rfl ?_
          refine ra_iconst rfl ?_
          refine ra_load rfl rfl rfl rfl ?_
          refine ra_cV (sp_201 hx0 (by first | omega | (unfold ra_in at *; omega)) hx1 (by first | assumption | rfl | omega)) rfl (ct_201 rfl lk_8_78 (Or.inl rfl) sh_179 (Nat.le_of_ble_eq_true rfl)) (fun s105 hs105 => ?_)
          obtain ⟨hf106, he107, he108⟩ := hs105
          have hF109 := Fr_tr (lo := 179) (hi := 191) hF98 hf106 (by omega)
          have hk110 : s105 (183) = σ (183) := (hf106 (183) (by omega)).trans hk100
          have hk111 : s105 (187) = σ (187) := (hf106 (187) (by omega)).trans hk101
          have hg112 : ∀ a, a ≠ 5 → a ≠ 7 → a ≠ 10 → ra_g s105 179 a = ra_g σ 179 a := fun a h5 h7 h10 => (ra_gk (hf106 179 (by omega))).trans (hg102 a h5 h7 h10)
          refine ra_load rfl rfl rfl rfl ?_
          exact ra_ireturn rfl rfl ⟨⟨_, hr104, (x5roY ((x5cif_n (fun q => q hp)).trans (x5cif_n (fun q => q (by omega)))) ((ra_gk (hf106 (179) (by omega))).trans ((he95 7 (by decide)).trans ((hz78q.2.2 (by omega)).trans ((he68.2 rfl).trans hp2)))) (show (wq σ x0 (3)) = wq σ x0 3 from by first | rfl | rw [wq_k hk99]) (x5sc_up (SC_tr (SC_tr (SC_tr (SC_tr SC_rf (SC_k (hs1 180 (by omega)))) (SC_k (hf66 180 (by omega)))) (SC_k (hf79 180 (by omega)))) (SC_k hc91)) he107 he108) (x5psh_k (x5psh_s hb5 hb4 hb0 he97) (ra_gk (hf106 179 (by omega))) (hf106 184 (by omega)))), rfl⟩, ⟨hF109, hk110, hk111, hg112, (by first | (exfalso; omega) | exact WF_mn (p := x0) (WF_k hk99 hw) ⟨by omega, by omega⟩ (fun a hn => he108 a hn) (by have t := he107; rw [wq_k hk99]; omega)), (PW_k he96 (ra_gk (hf106 179 (by omega))) (hf106 184 (by omega)))⟩⟩
        · refine ra_iconst rfl ?_
          exact ra_ireturn rfl rfl ⟨⟨_, (by first | omega | (unfold ra_in at *; omega)), (x5roF (k := 2) (x5cif_y (fun q => hz78q.1 (by omega) q)) (by decide) (hz78q.2.1 (by omega)) hk82 (ho87 5 (by decide) (by decide)) hk84), rfl⟩, ⟨hF81, hk83, hk85, hg86, (WF_k hk82 hw), (PW_k hpw (ho87 5 (by decide) (by decide)) hk84)⟩⟩
    · refine ra_iconst rfl ?_
      refine ra_goto rfl rfl ?_
      refine ra_iconst rfl ?_
      refine ra_cT (s5_194 (Or.inr rfl) (by first | omega | (unfold ra_in at *; omega))) rfl (ct_194 rfl lk_8_303 (Or.inl rfl) sh_179 (Nat.le_of_ble_eq_true rfl)) (fun s113 hs113 => ?_)
      obtain ⟨hf114, he115, he116⟩ := hs113
      have hF117 := Fr_tr (lo := 179) (hi := 191) hF3 hf114 (by omega)
      have hk118 : s113 (180) = σ (180) := (hf114 (180) (by omega)).trans hk4
      have hk119 : s113 (183) = σ (183) := (hf114 (183) (by omega)).trans hk5
      have hk120 : s113 (184) = σ (184) := (hf114 (184) (by omega)).trans hk6
      have hk121 : s113 (187) = σ (187) := (hf114 (187) (by omega)).trans hk7
      have hg122 : ∀ a, a ≠ 5 → a ≠ 7 → a ≠ 10 → ra_g s113 179 a = ra_g σ 179 a := fun a h5 h7 h10 => ((fun a h7 h10 => he115 a h7) a h7 h10).trans (hg8 a h5 h7 h10)
      have ho123 : ∀ a, a ≠ 7 → a ≠ 10 → ra_g s113 179 a = ra_g σ 179 a := fun a h7 h10 => ((fun a h7 h10 => he115 a h7) a h7 h10).trans (ho9 a h7 h10)
      refine ra_ifne rfl rfl (by first | omega | (unfold ra_in at *; omega)) (fun h124 => ?_) (fun h124 => ?_)
      · refine ra_iconst rfl ?_
        exact ra_ireturn rfl rfl ⟨⟨_, (by first | omega | (unfold ra_in at *; omega)), (x5roF (k := 1) ((x5cif_n (fun q => q (show x5EX σ x0 from hz11p.mp (by omega)))).trans (x5cif_y (by omega))) (by decide) (he116.1 rfl) hk118 (ho123 5 (by decide) (by decide)) hk120), rfl⟩, ⟨hF117, hk119, hk121, hg122, (WF_k hk118 hw), (PW_k hpw (ho123 5 (by decide) (by decide)) hk120)⟩⟩
      · exact absurd h124 (by decide)
theorem s5_315 {n : Nat} {f : Nat → Int32} {d : Nat} {x0 : Int} {x1 : Int} {σ : ra_V} (hx0 : ra_in x0) (hx1 : ra_in x1) (hw : WF σ) (hpw : PW σ) : ra_C (g_Gs n f) g_sh 0 (d + 3) 315 [.index (179), ra_I x0, ra_I x1] σ (fun r9 s => (∃ z, ra_in z ∧ (x5RO (x5dcSet x0 x1) (fun z => z = ra_g σ 180 x0.toNat) (x5up σ x0.toNat x1) σ s z) ∧ r9 = .inl (some (ra_I z))) ∧ Fr (179) (191) σ s ∧ s (183) = σ (183) ∧ s (187) = σ (187) ∧ (∀ a, a ≠ 5 → a ≠ 7 → a ≠ 10 → ra_g s 179 a = ra_g σ 179 a) ∧ WF s ∧ PW s) := by
  refine ra_enter (nn := 1) mt_315 rfl (Nat.le_of_ble_eq_true rfl) rfl (fun h => absurd h (by decide +kernel)) ?_
  have hw0 := WF_a hw
  unfold WFa at hw0
  refine ra_load rfl rfl rfl rfl ?_
  refine ra_iconst rfl ?_
  refine ra_putI rfl lk_8_51 (Nat.zero_le _) sh_179 rfl rfl ?_
  refine ra_newU (by first | omega | (unfold ra_in at *; omega)) (fun s1 hs1 hp2 hp2o => ?_)
  have hp2_99 := hp2o 99 (by decide)
  have hF3 := Fr_tr (lo := 179) (hi := 191) Fr_rf hs1 (by omega)
  have hk4 : s1 (180) = σ (180) := (hs1 (180) (by omega))
  have hk5 : s1 (183) = σ (183) := (hs1 (183) (by omega))
  have hk6 : s1 (184) = σ (184) := (hs1 (184) (by omega))
  have hk7 : s1 (187) = σ (187) := (hs1 (187) (by omega))
  have hg8 : ∀ a, a ≠ 5 → a ≠ 7 → a ≠ 10 → ra_g s1 179 a = ra_g σ 179 a := fun a h5 h7 h10 => ((fun a h7 h10 => hp2o a h7) a h7 h10).trans ((fun _ _ _ _ => rfl) a h5 h7 h10)
  have ho9 : ∀ a, a ≠ 7 → a ≠ 10 → ra_g s1 179 a = ra_g σ 179 a := fun a h7 h10 => ((fun a h7 h10 => hp2o a h7) a h7 h10).trans ((fun _ _ _ => rfl) a h7 h10)
  refine ra_load rfl rfl rfl rfl ?_
  refine ra_load rfl rfl rfl rfl ?_
  refine ra_iconst rfl ?_
  refine ra_icne rfl rfl hx0 (by first | omega | (unfold ra_in at *; omega)) (fun h10 => ?_) (fun h10 => ?_)
  · refine ra_load rfl rfl rfl rfl ?_
    refine ra_iconst rfl ?_
    refine ra_icne rfl rfl hx0 (by first | omega | (unfold ra_in at *; omega)) (fun h11 => ?_) (fun h11 => ?_)
    · refine ra_iconst rfl ?_
      refine ra_goto rfl rfl ?_
      refine ra_iconst rfl ?_
      refine ra_cT (s5_194 (Or.inr rfl) (by first | omega | (unfold ra_in at *; omega))) rfl (ct_194 rfl lk_8_303 (Or.inl rfl) sh_179 (Nat.le_of_ble_eq_true rfl)) (fun s12 hs12 => ?_)
      obtain ⟨hf13, he14, he15⟩ := hs12
      have hF16 := Fr_tr (lo := 179) (hi := 191) hF3 hf13 (by omega)
      have hk17 : s12 (180) = σ (180) := (hf13 (180) (by omega)).trans hk4
      have hk18 : s12 (183) = σ (183) := (hf13 (183) (by omega)).trans hk5
      have hk19 : s12 (184) = σ (184) := (hf13 (184) (by omega)).trans hk6
      have hk20 : s12 (187) = σ (187) := (hf13 (187) (by omega)).trans hk7
      have hg21 : ∀ a, a ≠ 5 → a ≠ 7 → a ≠ 10 → ra_g s12 179 a = ra_g σ 179 a := fun a h5 h7 h10 => ((fun a h7 h10 => he14 a h7) a h7 h10).trans (hg8 a h5 h7 h10)
      have ho22 : ∀ a, a ≠ 7 → a ≠ 10 → ra_g s12 179 a = ra_g σ 179 a := fun a h7 h10 => ((fun a h7 h10 => he14 a h7) a h7 h10).trans (ho9 a h7 h10)
      refine ra_ifeq rfl rfl (by first | omega | (unfold ra_in at *; omega)) (fun h23 => ?_) (fun h23 => ?_)
      · exact absurd h23 (by decide)
      · refine ra_iconst rfl ?_
        exact ra_ireturn rfl rfl ⟨⟨_, (by first | omega | (unfold ra_in at *; omega)), (x5roF (k := 1) (by first | exact x5cif_y (by omega) | exact (x5cif_n (by omega)).trans (x5cif_y (by omega))) (by decide) (he15.1 rfl) hk17 (ho22 5 (by decide) (by decide)) hk19), rfl⟩, ⟨hF16, hk18, hk20, hg21, (WF_k hk17 hw), (PW_k hpw (ho22 5 (by decide) (by decide)) hk19)⟩⟩
    · refine ra_load rfl rfl rfl rfl ?_
      refine ra_i2l rfl hx1 ?_
      refine ra_lconst1 rfl ?_
      refine ra_ldc2 (z := 16) rfl lk_8_386 (by decide) ?_
      refine ra_cTp (sp_193 hx1 (by first | omega | (unfold ra_in at *; omega)) (by first | omega | (unfold ra_in at *; omega))) rfl (ct_193 rfl lk_8_63 (Or.inl rfl) (Nat.le_of_ble_eq_true rfl)) ?_
      refine ra_ifneB rfl rfl (fun h25 => ?_) (fun h25 => ?_)
      · refine ra_iconst rfl ?_
        refine ra_iconst rfl ?_
        refine ra_cT (s5_194 (Or.inl rfl) (by first | omega | (unfold ra_in at *; omega))) rfl (ct_194 rfl lk_8_303 (Or.inl rfl) sh_179 (Nat.le_of_ble_eq_true rfl)) (fun s26 hs26 => ?_)
        obtain ⟨hf27, he28, he29⟩ := hs26
        have hF30 := Fr_tr (lo := 179) (hi := 191) hF3 hf27 (by omega)
        have hk31 : s26 (180) = σ (180) := (hf27 (180) (by omega)).trans hk4
        have hk32 : s26 (183) = σ (183) := (hf27 (183) (by omega)).trans hk5
        have hk33 : s26 (184) = σ (184) := (hf27 (184) (by omega)).trans hk6
        have hk34 : s26 (187) = σ (187) := (hf27 (187) (by omega)).trans hk7
        have hg35 : ∀ a, a ≠ 5 → a ≠ 7 → a ≠ 10 → ra_g s26 179 a = ra_g σ 179 a := fun a h5 h7 h10 => ((fun a h7 h10 => he28 a h7) a h7 h10).trans (hg8 a h5 h7 h10)
        have ho36 : ∀ a, a ≠ 7 → a ≠ 10 → ra_g s26 179 a = ra_g σ 179 a := fun a h7 h10 => ((fun a h7 h10 => he28 a h7) a h7 h10).trans (ho9 a h7 h10)
        refine ra_ifeq rfl rfl (by first | omega | (unfold ra_in at *; omega)) (fun h37 => ?_) (fun h37 => ?_)
        · refine ra_load rfl rfl rfl rfl ?_
          have hb0 : s26 180 = σ 180 := hk31
          have hb4 : s26 184 = σ 184 := hk33
          have hb5 : ra_g s26 179 5 = ra_g σ 179 5 := ho36 5 (by decide) (by decide)
          refine ra_cV (s5_197 (WF_k hk31 hw) (PW_k hpw (ho36 5 (by decide) (by decide)) hk33)) rfl (ct_197 rfl lk_8_366 (Or.inl rfl) sh_179 (Nat.le_of_ble_eq_true rfl)) (fun s38 hs38 => ?_)
          obtain ⟨hf39, hc40, hc41, hc42, hc43, he44, he45, he46⟩ := hs38
          have hF47 := Fr_tr (lo := 179) (hi := 191) hF30 hf39 (by omega)
          have hk48 : s38 (180) = σ (180) := hc40.trans hk31
          have hk49 : s38 (183) = σ (183) := hc43.trans hk32
          have hk50 : s38 (187) = σ (187) := (hf39 (187) (by omega)).trans hk34
          have hg51 : ∀ a, a ≠ 5 → a ≠ 7 → a ≠ 10 → ra_g s38 179 a = ra_g σ 179 a := fun a h5 h7 h10 => ((fun a h5 h7 h10 => he44 a h5) a h5 h7 h10).trans (hg35 a h5 h7 h10)
          refine ra_load rfl rfl rfl rfl ?_
          refine ra_getR rfl lk_8_7 (Nat.zero_le _) sh_179 rfl ?_
          refine ra_load rfl rfl rfl rfl ?_
          refine ra_iaload rfl sh_180 rfl (by decide) (by first | omega | (unfold ra_in at *; omega)) (by first | omega | (unfold ra_in at *; omega)) ?_
          rw [ra_gk hk48]
          have hr52 : ra_in (ra_g σ (180) x0.toNat) := (ra_in_g _ _ _)
          refine ra_store (L' := [_, _, _, _]) rfl rfl rfl (Nat.le_of_ble_eq_true rfl) rfl ?_
          refine ra_load rfl rfl rfl rfl ?_
          refine ra_getR rfl lk_8_7 (Nat.zero_le _) sh_179 rfl ?_
          refine ra_load rfl rfl rfl rfl ?_
          refine ra_load rfl rfl rfl rfl ?_
          refine ra_iastore rfl sh_180 rfl (by decide) (by first | omega | (unfold ra_in at *; omega)) (by first | omega | (unfold ra_in at *; omega)) ?_
          refine ra_newR hx1 (fun s53 hs53 hs53v hs53o => ?_)
          have hF54 := Fr_tr (lo := 179) (hi := 191) hF47 hs53 (by omega)
          have hk55 : s53 (183) = σ (183) := (hs53 (183) (by omega)).trans hk49
          have hk56 : s53 (187) = σ (187) := (hs53 (187) (by omega)).trans hk50
          have hg57 : ∀ a, a ≠ 5 → a ≠ 7 → a ≠ 10 → ra_g s53 179 a = ra_g σ 179 a := fun a h5 h7 h10 => (ra_gk (hs53 179 (by omega))).trans (hg51 a h5 h7 h10)
          refine ra_load rfl rfl rfl rfl ?_
          exact ra_ireturn rfl rfl ⟨⟨_, hr52, (x5roY ((x5cif_n (by omega)).trans (x5cif_n (fun q => q (by omega)))) ((ra_gk (hs53 (179) (by omega))).trans ((he44 7 (by decide)).trans ((he29.2 rfl).trans hp2))) (show (ra_g σ (180) x0.toNat) = ra_g σ 180 x0.toNat from by first | rfl | exact ra_gk hk48) (x5sc_up (SC_tr (SC_tr (SC_tr SC_rf (SC_k (hs1 180 (by omega)))) (SC_k (hf27 180 (by omega)))) (SC_k hc40)) hs53v hs53o) (x5psh_k (x5psh_s hb5 hb4 hb0 he46) (ra_gk (hs53 179 (by omega))) (hs53 184 (by omega)))), rfl⟩, ⟨hF54, hk55, hk56, hg57, (Or.elim (show x0 = 3 ∨ x0 = 4 by omega) (fun e => by subst e; have t : ra_g s53 180 3 = x1 := hs53v; exact WF_set (j := 3) (WF_k hk48 hw) (Or.inl rfl) hs53o ⟨by omega, by omega, fun q => absurd q (by decide)⟩) (fun e => by subst e; have t : ra_g s53 180 4 = x1 := hs53v; exact WF_set (j := 4) (WF_k hk48 hw) (Or.inr rfl) hs53o ⟨by omega, by omega, fun _ => by omega⟩)), (PW_k he45 (ra_gk (hs53 179 (by omega))) (hs53 184 (by omega)))⟩⟩
        · exact absurd h37 (by decide)
      · refine ra_iconst rfl ?_
        refine ra_goto rfl rfl ?_
        refine ra_iconst rfl ?_
        refine ra_cT (s5_194 (Or.inr rfl) (by first | omega | (unfold ra_in at *; omega))) rfl (ct_194 rfl lk_8_303 (Or.inl rfl) sh_179 (Nat.le_of_ble_eq_true rfl)) (fun s58 hs58 => ?_)
        obtain ⟨hf59, he60, he61⟩ := hs58
        have hF62 := Fr_tr (lo := 179) (hi := 191) hF3 hf59 (by omega)
        have hk63 : s58 (180) = σ (180) := (hf59 (180) (by omega)).trans hk4
        have hk64 : s58 (183) = σ (183) := (hf59 (183) (by omega)).trans hk5
        have hk65 : s58 (184) = σ (184) := (hf59 (184) (by omega)).trans hk6
        have hk66 : s58 (187) = σ (187) := (hf59 (187) (by omega)).trans hk7
        have hg67 : ∀ a, a ≠ 5 → a ≠ 7 → a ≠ 10 → ra_g s58 179 a = ra_g σ 179 a := fun a h5 h7 h10 => ((fun a h7 h10 => he60 a h7) a h7 h10).trans (hg8 a h5 h7 h10)
        have ho68 : ∀ a, a ≠ 7 → a ≠ 10 → ra_g s58 179 a = ra_g σ 179 a := fun a h7 h10 => ((fun a h7 h10 => he60 a h7) a h7 h10).trans (ho9 a h7 h10)
        refine ra_ifeq rfl rfl (by first | omega | (unfold ra_in at *; omega)) (fun h69 => ?_) (fun h69 => ?_)
        · exact absurd h69 (by decide)
        · refine ra_iconst rfl ?_
          exact ra_ireturn rfl rfl ⟨⟨_, (by first | omega | (unfold ra_in at *; omega)), (x5roF (k := 1) (by first | exact x5cif_y (by omega) | exact (x5cif_n (by omega)).trans (x5cif_y (by omega))) (by decide) (he61.1 rfl) hk63 (ho68 5 (by decide) (by decide)) hk65), rfl⟩, ⟨hF62, hk64, hk66, hg67, (WF_k hk63 hw), (PW_k hpw (ho68 5 (by decide) (by decide)) hk65)⟩⟩
  · refine ra_load rfl rfl rfl rfl ?_
    refine ra_i2l rfl hx1 ?_
    refine ra_lconst1 rfl ?_
    refine ra_ldc2 (z := 32) rfl lk_8_384 (by decide) ?_
    refine ra_cTp (sp_193 hx1 (by first | omega | (unfold ra_in at *; omega)) (by first | omega | (unfold ra_in at *; omega))) rfl (ct_193 rfl lk_8_63 (Or.inl rfl) (Nat.le_of_ble_eq_true rfl)) ?_
    refine ra_ifneB rfl rfl (fun h71 => ?_) (fun h71 => ?_)
    · refine ra_iconst rfl ?_
      refine ra_goto rfl rfl ?_
      refine ra_iconst rfl ?_
      refine ra_cT (s5_194 (Or.inl rfl) (by first | omega | (unfold ra_in at *; omega))) rfl (ct_194 rfl lk_8_303 (Or.inl rfl) sh_179 (Nat.le_of_ble_eq_true rfl)) (fun s72 hs72 => ?_)
      obtain ⟨hf73, he74, he75⟩ := hs72
      have hF76 := Fr_tr (lo := 179) (hi := 191) hF3 hf73 (by omega)
      have hk77 : s72 (180) = σ (180) := (hf73 (180) (by omega)).trans hk4
      have hk78 : s72 (183) = σ (183) := (hf73 (183) (by omega)).trans hk5
      have hk79 : s72 (184) = σ (184) := (hf73 (184) (by omega)).trans hk6
      have hk80 : s72 (187) = σ (187) := (hf73 (187) (by omega)).trans hk7
      have hg81 : ∀ a, a ≠ 5 → a ≠ 7 → a ≠ 10 → ra_g s72 179 a = ra_g σ 179 a := fun a h5 h7 h10 => ((fun a h7 h10 => he74 a h7) a h7 h10).trans (hg8 a h5 h7 h10)
      have ho82 : ∀ a, a ≠ 7 → a ≠ 10 → ra_g s72 179 a = ra_g σ 179 a := fun a h7 h10 => ((fun a h7 h10 => he74 a h7) a h7 h10).trans (ho9 a h7 h10)
      refine ra_ifeq rfl rfl (by first | omega | (unfold ra_in at *; omega)) (fun h83 => ?_) (fun h83 => ?_)
      · refine ra_load rfl rfl rfl rfl ?_
        have hb0 : s72 180 = σ 180 := hk77
        have hb4 : s72 184 = σ 184 := hk79
        have hb5 : ra_g s72 179 5 = ra_g σ 179 5 := ho82 5 (by decide) (by decide)
        refine ra_cV (s5_197 (WF_k hk77 hw) (PW_k hpw (ho82 5 (by decide) (by decide)) hk79)) rfl (ct_197 rfl lk_8_366 (Or.inl rfl) sh_179 (Nat.le_of_ble_eq_true rfl)) (fun s84 hs84 => ?_)
        obtain ⟨hf85, hc86, hc87, hc88, hc89, he90, he91, he92⟩ := hs84
        have hF93 := Fr_tr (lo := 179) (hi := 191) hF76 hf85 (by omega)
        have hk94 : s84 (180) = σ (180) := hc86.trans hk77
        have hk95 : s84 (183) = σ (183) := hc89.trans hk78
        have hk96 : s84 (187) = σ (187) := (hf85 (187) (by omega)).trans hk80
        have hg97 : ∀ a, a ≠ 5 → a ≠ 7 → a ≠ 10 → ra_g s84 179 a = ra_g σ 179 a := fun a h5 h7 h10 => ((fun a h5 h7 h10 => he90 a h5) a h5 h7 h10).trans (hg81 a h5 h7 h10)
        refine ra_load rfl rfl rfl rfl ?_
        refine ra_getR rfl lk_8_7 (Nat.zero_le _) sh_179 rfl ?_
        refine ra_load rfl rfl rfl rfl ?_
        refine ra_iaload rfl sh_180 rfl (by decide) (by first | omega | (unfold ra_in at *; omega)) (by first | omega | (unfold ra_in at *; omega)) ?_
        rw [ra_gk hk94]
        have hr98 : ra_in (ra_g σ (180) x0.toNat) := (ra_in_g _ _ _)
        refine ra_store (L' := [_, _, _, _]) rfl rfl rfl (Nat.le_of_ble_eq_true rfl) rfl ?_
        refine ra_load rfl rfl rfl rfl ?_
        refine ra_getR rfl lk_8_7 (Nat.zero_le _) sh_179 rfl ?_
        refine ra_load rfl rfl rfl rfl ?_
        refine ra_load rfl rfl rfl rfl ?_
        refine ra_iastore rfl sh_180 rfl (by decide) (by first | omega | (unfold ra_in at *; omega)) (by first | omega | (unfold ra_in at *; omega)) ?_
        refine ra_newR hx1 (fun s99 hs99 hs99v hs99o => ?_)
        have hF100 := Fr_tr (lo := 179) (hi := 191) hF93 hs99 (by omega)
        have hk101 : s99 (183) = σ (183) := (hs99 (183) (by omega)).trans hk95
        have hk102 : s99 (187) = σ (187) := (hs99 (187) (by omega)).trans hk96
        have hg103 : ∀ a, a ≠ 5 → a ≠ 7 → a ≠ 10 → ra_g s99 179 a = ra_g σ 179 a := fun a h5 h7 h10 => (ra_gk (hs99 179 (by omega))).trans (hg97 a h5 h7 h10)
        refine ra_load rfl rfl rfl rfl ?_
        exact ra_ireturn rfl rfl ⟨⟨_, hr98, (x5roY ((x5cif_n (by omega)).trans (x5cif_n (fun q => q (by omega)))) ((ra_gk (hs99 (179) (by omega))).trans ((he90 7 (by decide)).trans ((he75.2 rfl).trans hp2))) (show (ra_g σ (180) x0.toNat) = ra_g σ 180 x0.toNat from by first | rfl | exact ra_gk hk94) (x5sc_up (SC_tr (SC_tr (SC_tr SC_rf (SC_k (hs1 180 (by omega)))) (SC_k (hf73 180 (by omega)))) (SC_k hc86)) hs99v hs99o) (x5psh_k (x5psh_s hb5 hb4 hb0 he92) (ra_gk (hs99 179 (by omega))) (hs99 184 (by omega)))), rfl⟩, ⟨hF100, hk101, hk102, hg103, (Or.elim (show x0 = 3 ∨ x0 = 4 by omega) (fun e => by subst e; have t : ra_g s99 180 3 = x1 := hs99v; exact WF_set (j := 3) (WF_k hk94 hw) (Or.inl rfl) hs99o ⟨by omega, by omega, fun q => absurd q (by decide)⟩) (fun e => by subst e; have t : ra_g s99 180 4 = x1 := hs99v; exact WF_set (j := 4) (WF_k hk94 hw) (Or.inr rfl) hs99o ⟨by omega, by omega, fun _ => by omega⟩)), (PW_k he91 (ra_gk (hs99 179 (by omega))) (hs99 184 (by omega)))⟩⟩
      · exact absurd h83 (by decide)
    · refine ra_iconst rfl ?_
      refine ra_goto rfl rfl ?_
      refine ra_iconst rfl ?_
      refine ra_cT (s5_194 (Or.inr rfl) (by first | omega | (unfold ra_in at *; omega))) rfl (ct_194 rfl lk_8_303 (Or.inl rfl) sh_179 (Nat.le_of_ble_eq_true rfl)) (fun s104 hs104 => ?_)
      obtain ⟨hf105, he106, he107⟩ := hs104
      have hF108 := Fr_tr (lo := 179) (hi := 191) hF3 hf105 (by omega)
      have hk109 : s104 (180) = σ (180) := (hf105 (180) (by omega)).trans hk4
      have hk110 : s104 (183) = σ (183) := (hf105 (183) (by omega)).trans hk5
      have hk111 : s104 (184) = σ (184) := (hf105 (184) (by omega)).trans hk6
      have hk112 : s104 (187) = σ (187) := (hf105 (187) (by omega)).trans hk7
      have hg113 : ∀ a, a ≠ 5 → a ≠ 7 → a ≠ 10 → ra_g s104 179 a = ra_g σ 179 a := fun a h5 h7 h10 => ((fun a h7 h10 => he106 a h7) a h7 h10).trans (hg8 a h5 h7 h10)
      have ho114 : ∀ a, a ≠ 7 → a ≠ 10 → ra_g s104 179 a = ra_g σ 179 a := fun a h7 h10 => ((fun a h7 h10 => he106 a h7) a h7 h10).trans (ho9 a h7 h10)
      refine ra_ifeq rfl rfl (by first | omega | (unfold ra_in at *; omega)) (fun h115 => ?_) (fun h115 => ?_)
      · exact absurd h115 (by decide)
      · refine ra_iconst rfl ?_
        exact ra_ireturn rfl rfl ⟨⟨_, (by first | omega | (unfold ra_in at *; omega)), (x5roF (k := 1) (by first | exact x5cif_y (by omega) | exact (x5cif_n (by omega)).trans (x5cif_y (by omega))) (by decide) (he107.1 rfl) hk109 (ho114 5 (by decide) (by decide)) hk111), rfl⟩, ⟨hF108, hk110, hk112, hg113, (WF_k hk109 hw), (PW_k hpw (ho114 5 (by decide) (by decide)) hk111)⟩⟩
theorem s5_305 {n : Nat} {f : Nat → Int32} {d : Nat} {x0 : Int} {x1 : Int} {σ : ra_V} (hx0 : ra_in x0) (hx1 : ra_in x1) (hw : WF σ) (hpw : PW σ) : ra_C (g_Gs n f) g_sh 0 (d + 6) 305 [.index (179), ra_I x0, ra_I x1] σ (fun r9 s => (∃ z, ra_in z ∧ (x5RO (x5dcRz σ x0 x1) (fun z => z = wq σ x0 2) (x5up σ (24 + 8 * x0 + 2).toNat x1) σ s z) ∧ r9 = .inl (some (ra_I z))) ∧ Fr (179) (191) σ s ∧ s (183) = σ (183) ∧ s (187) = σ (187) ∧ (∀ a, a ≠ 5 → a ≠ 7 → a ≠ 10 → ra_g s 179 a = ra_g σ 179 a) ∧ WF s ∧ PW s) := by
  refine ra_enter (nn := 1) mt_305 rfl (Nat.le_of_ble_eq_true rfl) rfl (fun h => absurd h (by decide +kernel)) ?_
  have hw0 := WF_a hw
  unfold WFa at hw0
  refine ra_load rfl rfl rfl rfl ?_
  refine ra_iconst rfl ?_
  refine ra_putI rfl lk_8_51 (Nat.zero_le _) sh_179 rfl rfl ?_
  refine ra_newU (by first | omega | (unfold ra_in at *; omega)) (fun s1 hs1 hp2 hp2o => ?_)
  have hp2_99 := hp2o 99 (by decide)
  have hF3 := Fr_tr (lo := 179) (hi := 191) Fr_rf hs1 (by omega)
  have hk4 : s1 (180) = σ (180) := (hs1 (180) (by omega))
  have hk5 : s1 (183) = σ (183) := (hs1 (183) (by omega))
  have hk6 : s1 (184) = σ (184) := (hs1 (184) (by omega))
  have hk7 : s1 (187) = σ (187) := (hs1 (187) (by omega))
  have hg8 : ∀ a, a ≠ 5 → a ≠ 7 → a ≠ 10 → ra_g s1 179 a = ra_g σ 179 a := fun a h5 h7 h10 => ((fun a h7 h10 => hp2o a h7) a h7 h10).trans ((fun _ _ _ _ => rfl) a h5 h7 h10)
  have ho9 : ∀ a, a ≠ 7 → a ≠ 10 → ra_g s1 179 a = ra_g σ 179 a := fun a h7 h10 => ((fun a h7 h10 => hp2o a h7) a h7 h10).trans ((fun _ _ _ => rfl) a h7 h10)
  refine ra_load rfl rfl rfl rfl ?_
  refine ra_load rfl rfl rfl rfl ?_
  refine ra_load rfl rfl rfl rfl ?_
  refine ra_cQPp (sp_202 hx0) rfl (ct_202 rfl lk_8_313 (Or.inl rfl) sh_179 (Nat.le_of_ble_eq_true rfl)) (fun z11 hz11 hz11p => ?_)
  rw [wq_k hk4] at hz11p
  refine ra_ifeq rfl rfl (ra_in01 hz11) (fun h12 => ?_) (fun h12 => ?_)
  · refine ra_iconst rfl ?_
    refine ra_iconst rfl ?_
    refine ra_cT (s5_194 (Or.inl rfl) (by first | omega | (unfold ra_in at *; omega))) rfl (ct_194 rfl lk_8_303 (Or.inl rfl) sh_179 (Nat.le_of_ble_eq_true rfl)) (fun s13 hs13 => ?_)
    obtain ⟨hf14, he15, he16⟩ := hs13
    have hF17 := Fr_tr (lo := 179) (hi := 191) hF3 hf14 (by omega)
    have hk18 : s13 (180) = σ (180) := (hf14 (180) (by omega)).trans hk4
    have hk19 : s13 (183) = σ (183) := (hf14 (183) (by omega)).trans hk5
    have hk20 : s13 (184) = σ (184) := (hf14 (184) (by omega)).trans hk6
    have hk21 : s13 (187) = σ (187) := (hf14 (187) (by omega)).trans hk7
    have hg22 : ∀ a, a ≠ 5 → a ≠ 7 → a ≠ 10 → ra_g s13 179 a = ra_g σ 179 a := fun a h5 h7 h10 => ((fun a h7 h10 => he15 a h7) a h7 h10).trans (hg8 a h5 h7 h10)
    have ho23 : ∀ a, a ≠ 7 → a ≠ 10 → ra_g s13 179 a = ra_g σ 179 a := fun a h7 h10 => ((fun a h7 h10 => he15 a h7) a h7 h10).trans (ho9 a h7 h10)
    refine ra_ifne rfl rfl (by first | omega | (unfold ra_in at *; omega)) (fun h24 => ?_) (fun h24 => ?_)
    · exact absurd h24 (by decide)
    · refine ra_load rfl rfl rfl rfl ?_
      refine ra_load rfl rfl rfl rfl ?_
      refine ra_iconst rfl ?_
      refine ra_cQPs (s5_268 hx0 (by first | omega | (unfold ra_in at *; omega))) rfl (ct_268 rfl lk_8_318 (Or.inl rfl) sh_179 (Nat.le_of_ble_eq_true rfl)) (fun z26 s25 hz26 hz26p hs25 => ?_)
      rw [wq_k hk18] at hz26p
      have hz26o := hz26p.1
      have hz26q := hz26p.2
      clear hz26p
      obtain ⟨hf27, he28⟩ := hs25
      have hF29 := Fr_tr (lo := 179) (hi := 191) hF17 hf27 (by omega)
      have hk30 : s25 (180) = σ (180) := (hf27 (180) (by omega)).trans hk18
      have hk31 : s25 (183) = σ (183) := (hf27 (183) (by omega)).trans hk19
      have hk32 : s25 (184) = σ (184) := (hf27 (184) (by omega)).trans hk20
      have hk33 : s25 (187) = σ (187) := (hf27 (187) (by omega)).trans hk21
      have hg34 : ∀ a, a ≠ 5 → a ≠ 7 → a ≠ 10 → ra_g s25 179 a = ra_g σ 179 a := fun a h5 h7 h10 => ((fun a h7 h10 => he28 a h7) a h7 h10).trans (hg22 a h5 h7 h10)
      have ho35 : ∀ a, a ≠ 7 → a ≠ 10 → ra_g s25 179 a = ra_g σ 179 a := fun a h7 h10 => ((fun a h7 h10 => he28 a h7) a h7 h10).trans (ho23 a h7 h10)
      refine ra_ifeq rfl rfl (ra_in01 hz26) (fun h36 => ?_) (fun h36 => ?_)
      · refine ra_load rfl rfl rfl rfl ?_
        have hp := hz26o (by omega)
        have hst := hz11p.mpr hp
        have hq := WF_p hw hp.1 hp.2.1 hp.2.2
        have hb0 : s25 180 = σ 180 := hk30
        have hb4 : s25 184 = σ 184 := hk32
        have hb5 : ra_g s25 179 5 = ra_g σ 179 5 := ho35 5 (by decide) (by decide)
        refine ra_cV (s5_197 (WF_k hk30 hw) (PW_k hpw (ho35 5 (by decide) (by decide)) hk32)) rfl (ct_197 rfl lk_8_366 (Or.inl rfl) sh_179 (Nat.le_of_ble_eq_true rfl)) (fun s37 hs37 => ?_)
        obtain ⟨hf38, hc39, hc40, hc41, hc42, he43, he44, he45⟩ := hs37
        have hF46 := Fr_tr (lo := 179) (hi := 191) hF29 hf38 (by omega)
        have hk47 : s37 (180) = σ (180) := hc39.trans hk30
        have hk48 : s37 (183) = σ (183) := hc42.trans hk31
        have hk49 : s37 (187) = σ (187) := (hf38 (187) (by omega)).trans hk33
        have hg50 : ∀ a, a ≠ 5 → a ≠ 7 → a ≠ 10 → ra_g s37 179 a = ra_g σ 179 a := fun a h5 h7 h10 => ((fun a h5 h7 h10 => he43 a h5) a h5 h7 h10).trans (hg34 a h5 h7 h10)
        refine ra_load rfl rfl rfl rfl ?_
        refine ra_load rfl rfl rfl rfl ?_
        refine ra_iconst rfl ?_
        refine ra_cTp (sp_200 hx0 (by first | omega | (unfold ra_in at *; omega)) (by first | assumption | rfl | omega)) rfl (ct_200 rfl lk_8_67 (Or.inl rfl) sh_179 (Nat.le_of_ble_eq_true rfl)) ?_
        rw [wq_k hk47]
        have hr52 : ra_in (wq σ x0 (2)) := (ra_in_wq _ _ _)
        refine ra_store (L' := [_, _, _, _]) rfl rfl rfl (Nat.le_of_ble_eq_true rfl) rfl ?_
        refine ra_load rfl rfl rfl rfl ?_
        refine ra_load rfl rfl rfl rfl ?_
        refine ra_load rfl rfl rfl rfl ?_
        refine ra_cV (s5_304 hx0 hx1 (by first | assumption | rfl | omega) (by simp only [wq_k hk47]; omega)) rfl (ct_304 rfl lk_8_375 (Or.inl rfl) sh_179 (Nat.le_of_ble_eq_true rfl)) (fun s53 hs53 => ?_)
        obtain ⟨hf54, he55, he56⟩ := hs53
        have hF57 := Fr_tr (lo := 179) (hi := 191) hF46 hf54 (by omega)
        have hk58 : s53 (183) = σ (183) := (hf54 (183) (by omega)).trans hk48
        have hk59 : s53 (187) = σ (187) := (hf54 (187) (by omega)).trans hk49
        have hg60 : ∀ a, a ≠ 5 → a ≠ 7 → a ≠ 10 → ra_g s53 179 a = ra_g σ 179 a := fun a h5 h7 h10 => (ra_gk (hf54 179 (by omega))).trans (hg50 a h5 h7 h10)
        refine ra_load rfl rfl rfl rfl ?_
        exact ra_ireturn rfl rfl ⟨⟨_, hr52, (by exfalso; omega), rfl⟩, ⟨hF57, hk58, hk59, hg60, (by exfalso; omega), (PW_k he44 (ra_gk (hf54 179 (by omega))) (hf54 184 (by omega)))⟩⟩
      · refine ra_iconst rfl ?_
        exact ra_ireturn rfl rfl ⟨⟨_, (by first | omega | (unfold ra_in at *; omega)), (x5roF (k := 2) (x5cif_y (fun q => hz26q.1 (by omega) q)) (by decide) (hz26q.2.1 (by omega)) hk30 (ho35 5 (by decide) (by decide)) hk32), rfl⟩, ⟨hF29, hk31, hk33, hg34, (WF_k hk30 hw), (PW_k hpw (ho35 5 (by decide) (by decide)) hk32)⟩⟩
  · refine ra_load rfl rfl rfl rfl ?_
    refine ra_load rfl rfl rfl rfl ?_
    refine ra_load rfl rfl rfl rfl ?_
    refine ra_cIPp (s6_302 hx0 hx1 (WF_k hk4 hw) (sp_k hk4 rfl (hz11p.mp (by omega)))) rfl (ct_302 rfl lk_8_372 (Or.inl rfl) sh_179 (Nat.le_of_ble_eq_true rfl)) (fun z62 hz62 hz62p => ?_)
    have hz62o := hz62p.1
    have hz62q := hz62p.2
    clear hz62p
    refine ra_ifeq rfl rfl hz62 (fun h63 => ?_) (fun h63 => ?_)
    · refine ra_iconst rfl ?_
      refine ra_iconst rfl ?_
      refine ra_cT (s5_194 (Or.inl rfl) (by first | omega | (unfold ra_in at *; omega))) rfl (ct_194 rfl lk_8_303 (Or.inl rfl) sh_179 (Nat.le_of_ble_eq_true rfl)) (fun s64 hs64 => ?_)
      obtain ⟨hf65, he66, he67⟩ := hs64
      have hF68 := Fr_tr (lo := 179) (hi := 191) hF3 hf65 (by omega)
      have hk69 : s64 (180) = σ (180) := (hf65 (180) (by omega)).trans hk4
      have hk70 : s64 (183) = σ (183) := (hf65 (183) (by omega)).trans hk5
      have hk71 : s64 (184) = σ (184) := (hf65 (184) (by omega)).trans hk6
      have hk72 : s64 (187) = σ (187) := (hf65 (187) (by omega)).trans hk7
      have hg73 : ∀ a, a ≠ 5 → a ≠ 7 → a ≠ 10 → ra_g s64 179 a = ra_g σ 179 a := fun a h5 h7 h10 => ((fun a h7 h10 => he66 a h7) a h7 h10).trans (hg8 a h5 h7 h10)
      have ho74 : ∀ a, a ≠ 7 → a ≠ 10 → ra_g s64 179 a = ra_g σ 179 a := fun a h7 h10 => ((fun a h7 h10 => he66 a h7) a h7 h10).trans (ho9 a h7 h10)
      refine ra_ifne rfl rfl (by first | omega | (unfold ra_in at *; omega)) (fun h75 => ?_) (fun h75 => ?_)
      · exact absurd h75 (by decide)
      · refine ra_load rfl rfl rfl rfl ?_
        refine ra_load rfl rfl rfl rfl ?_
        refine ra_iconst rfl ?_
        refine ra_cQPs (s5_268 hx0 (by first | omega | (unfold ra_in at *; omega))) rfl (ct_268 rfl lk_8_318 (Or.inl rfl) sh_179 (Nat.le_of_ble_eq_true rfl)) (fun z77 s76 hz77 hz77p hs76 => ?_)
        rw [wq_k hk69] at hz77p
        have hz77o := hz77p.1
        have hz77q := hz77p.2
        clear hz77p
        obtain ⟨hf78, he79⟩ := hs76
        have hF80 := Fr_tr (lo := 179) (hi := 191) hF68 hf78 (by omega)
        have hk81 : s76 (180) = σ (180) := (hf78 (180) (by omega)).trans hk69
        have hk82 : s76 (183) = σ (183) := (hf78 (183) (by omega)).trans hk70
        have hk83 : s76 (184) = σ (184) := (hf78 (184) (by omega)).trans hk71
        have hk84 : s76 (187) = σ (187) := (hf78 (187) (by omega)).trans hk72
        have hg85 : ∀ a, a ≠ 5 → a ≠ 7 → a ≠ 10 → ra_g s76 179 a = ra_g σ 179 a := fun a h5 h7 h10 => ((fun a h7 h10 => he79 a h7) a h7 h10).trans (hg73 a h5 h7 h10)
        have ho86 : ∀ a, a ≠ 7 → a ≠ 10 → ra_g s76 179 a = ra_g σ 179 a := fun a h7 h10 => ((fun a h7 h10 => he79 a h7) a h7 h10).trans (ho74 a h7 h10)
        refine ra_ifeq rfl rfl (ra_in01 hz77) (fun h87 => ?_) (fun h87 => ?_)
        · refine ra_load rfl rfl rfl rfl ?_
          have hp := hz77o (by omega)
          have hst := hz11p.mpr hp
          have hq := WF_p hw hp.1 hp.2.1 hp.2.2
          have hz0 := hz62o (by omega)
          have hz := szk_k hk4 hz0.2.2
          have hm1 := hz0.2.1
          rw [ra_gk hk4] at hm1
          have hz1 := hz.2.1
          unfold US at hz1
          have hb0 : s76 180 = σ 180 := hk81
          have hb4 : s76 184 = σ 184 := hk83
          have hb5 : ra_g s76 179 5 = ra_g σ 179 5 := ho86 5 (by decide) (by decide)
          refine ra_cV (s5_197 (WF_k hk81 hw) (PW_k hpw (ho86 5 (by decide) (by decide)) hk83)) rfl (ct_197 rfl lk_8_366 (Or.inl rfl) sh_179 (Nat.le_of_ble_eq_true rfl)) (fun s88 hs88 => ?_)
          obtain ⟨hf89, hc90, hc91, hc92, hc93, he94, he95, he96⟩ := hs88
          have hF97 := Fr_tr (lo := 179) (hi := 191) hF80 hf89 (by omega)
          have hk98 : s88 (180) = σ (180) := hc90.trans hk81
          have hk99 : s88 (183) = σ (183) := hc93.trans hk82
          have hk100 : s88 (187) = σ (187) := (hf89 (187) (by omega)).trans hk84
          have hg101 : ∀ a, a ≠ 5 → a ≠ 7 → a ≠ 10 → ra_g s88 179 a = ra_g σ 179 a := fun a h5 h7 h10 => ((fun a h5 h7 h10 => he94 a h5) a h5 h7 h10).trans (hg85 a h5 h7 h10)
          refine ra_load rfl rfl rfl rfl ?_
          refine ra_load rfl rfl rfl rfl ?_
          refine ra_iconst rfl ?_
          refine ra_cTp (sp_200 hx0 (by first | omega | (unfold ra_in at *; omega)) (by first | assumption | rfl | omega)) rfl (ct_200 rfl lk_8_67 (Or.inl rfl) sh_179 (Nat.le_of_ble_eq_true rfl)) ?_
          rw [wq_k hk98]
          have hr103 : ra_in (wq σ x0 (2)) := (ra_in_wq _ _ _)
          refine ra_store (L' := [_, _, _, _]) rfl rfl rfl (Nat.le_of_ble_eq_true rfl) rfl ?_
          refine ra_load rfl rfl rfl rfl ?_
          refine ra_load rfl rfl rfl rfl ?_
          refine ra_load rfl rfl rfl rfl ?_
          refine ra_cV (s5_304 hx0 hx1 (by first | assumption | rfl | omega) (by simp only [wq_k hk98]; omega)) rfl (ct_304 rfl lk_8_375 (Or.inl rfl) sh_179 (Nat.le_of_ble_eq_true rfl)) (fun s104 hs104 => ?_)
          obtain ⟨hf105, he106, he107⟩ := hs104
          have hF108 := Fr_tr (lo := 179) (hi := 191) hF97 hf105 (by omega)
          have hk109 : s104 (183) = σ (183) := (hf105 (183) (by omega)).trans hk99
          have hk110 : s104 (187) = σ (187) := (hf105 (187) (by omega)).trans hk100
          have hg111 : ∀ a, a ≠ 5 → a ≠ 7 → a ≠ 10 → ra_g s104 179 a = ra_g σ 179 a := fun a h5 h7 h10 => (ra_gk (hf105 179 (by omega))).trans (hg101 a h5 h7 h10)
          refine ra_load rfl rfl rfl rfl ?_
          exact ra_ireturn rfl rfl ⟨⟨_, hr103, (x5roY ((x5cif_n (fun q => q hp)).trans (x5cif_n (fun q => q (by have q9 := hz62q; rw [x5whyR_k hk4] at q9; omega)))) ((ra_gk (hf105 (179) (by omega))).trans ((he94 7 (by decide)).trans ((hz77q.2.2 (by omega)).trans ((he67.2 rfl).trans hp2)))) (show (wq σ x0 (2)) = wq σ x0 2 from by first | rfl | rw [wq_k hk98]) (x5scz_k hk98 he107) (x5psh_k (x5psh_s hb5 hb4 hb0 he96) (ra_gk (hf105 179 (by omega))) (hf105 184 (by omega)))), rfl⟩, ⟨hF108, hk109, hk110, hg111, (WF_rsz (WF_k hk98 hw) ⟨by omega, by omega, by rw [wq_k hk98]; omega⟩ (by rw [ra_gk hk98]; exact hm1) he106 (szk_k hk98.symm hz)), (PW_k he95 (ra_gk (hf105 179 (by omega))) (hf105 184 (by omega)))⟩⟩
        · refine ra_iconst rfl ?_
          exact ra_ireturn rfl rfl ⟨⟨_, (by first | omega | (unfold ra_in at *; omega)), (x5roF (k := 2) (x5cif_y (fun q => hz77q.1 (by omega) q)) (by decide) (hz77q.2.1 (by omega)) hk81 (ho86 5 (by decide) (by decide)) hk83), rfl⟩, ⟨hF80, hk82, hk84, hg85, (WF_k hk81 hw), (PW_k hpw (ho86 5 (by decide) (by decide)) hk83)⟩⟩
    · refine ra_iconst rfl ?_
      refine ra_goto rfl rfl ?_
      refine ra_iconst rfl ?_
      refine ra_cT (s5_194 (Or.inr rfl) (by first | omega | (unfold ra_in at *; omega))) rfl (ct_194 rfl lk_8_303 (Or.inl rfl) sh_179 (Nat.le_of_ble_eq_true rfl)) (fun s112 hs112 => ?_)
      obtain ⟨hf113, he114, he115⟩ := hs112
      have hF116 := Fr_tr (lo := 179) (hi := 191) hF3 hf113 (by omega)
      have hk117 : s112 (180) = σ (180) := (hf113 (180) (by omega)).trans hk4
      have hk118 : s112 (183) = σ (183) := (hf113 (183) (by omega)).trans hk5
      have hk119 : s112 (184) = σ (184) := (hf113 (184) (by omega)).trans hk6
      have hk120 : s112 (187) = σ (187) := (hf113 (187) (by omega)).trans hk7
      have hg121 : ∀ a, a ≠ 5 → a ≠ 7 → a ≠ 10 → ra_g s112 179 a = ra_g σ 179 a := fun a h5 h7 h10 => ((fun a h7 h10 => he114 a h7) a h7 h10).trans (hg8 a h5 h7 h10)
      have ho122 : ∀ a, a ≠ 7 → a ≠ 10 → ra_g s112 179 a = ra_g σ 179 a := fun a h7 h10 => ((fun a h7 h10 => he114 a h7) a h7 h10).trans (ho9 a h7 h10)
      refine ra_ifne rfl rfl (by first | omega | (unfold ra_in at *; omega)) (fun h123 => ?_) (fun h123 => ?_)
      · refine ra_iconst rfl ?_
        exact ra_ireturn rfl rfl ⟨⟨_, (by first | omega | (unfold ra_in at *; omega)), (x5roF (k := 1) ((x5cif_n (fun q => q (show x5EX σ x0 from hz11p.mp (by omega)))).trans (x5cif_y (by have q9 := hz62q; rw [x5whyR_k hk4] at q9; omega))) (by decide) (he115.1 rfl) hk117 (ho122 5 (by decide) (by decide)) hk119), rfl⟩, ⟨hF116, hk118, hk120, hg121, (WF_k hk117 hw), (PW_k hpw (ho122 5 (by decide) (by decide)) hk119)⟩⟩
      · exact absurd h123 (by decide)
end
