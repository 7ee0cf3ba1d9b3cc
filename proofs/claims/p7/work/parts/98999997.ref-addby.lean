/-! T5: what the reference changes (printed by wip/gen/r6.py) -/
section
theorem s5_298 {n : Nat} {f : Nat → Int32} {d : Nat} {x0 : Int} {x1 : Int} {x2 : Int} {x3 : Int} {σ : ra_V} (hx0 : ra_in x0) (hx1 : ra_in x1) (hx2 : ra_in x2) (hx3 : ra_in x3) (hw : WF σ) (hpw : PW σ) : ra_C (g_Gs n f) g_sh 0 (d + 7) 298 [.index (179), ra_I x0, ra_I x1, ra_I x2, ra_I x3] σ (fun r9 s => (∃ z, ra_in z ∧ (x5RO (x5dcAb σ x0 x1 x2 x3) (fun z => z = x5nfr σ) (x5mkV σ (x5nfr σ) (x5fitF σ x0 x3) x0 x1 x2) σ s z) ∧ r9 = .inl (some (ra_I z))) ∧ Fr (179) (191) σ s ∧ s (183) = σ (183) ∧ s (187) = σ (187) ∧ (∀ a, a ≠ 5 → a ≠ 7 → a ≠ 10 → ra_g s 179 a = ra_g σ 179 a) ∧ WF s ∧ PW s) := by
  refine ra_enter (nn := 1) mt_298 rfl (Nat.le_of_ble_eq_true rfl) rfl (fun h => absurd h (by decide +kernel)) ?_
  have hw0 := WF_a hw
  unfold WFa at hw0
  refine ra_load rfl rfl rfl rfl ?_
  refine ra_iconst rfl ?_
  refine ra_putI rfl lk_8_51 (Nat.zero_le _) sh_179 rfl rfl ?_
  refine ra_newU (by first | omega | (unfold ra_in at *; omega)) (fun s1 hs1 hp2 hp2o => ?_)
  have hp2_99 := hp2o 99 (by decide)
  have hF3 := Fr_tr (lo := 179) (hi := 191) Fr_rf hs1 (by omega)
  have hk4 : s1 (180) = σ (180) := (hs1 (180) (by omega))
  have hk5 : s1 (183) = σ (183) := (hs1 (183) (by omega))
  have hk6 : s1 (184) = σ (184) := (hs1 (184) (by omega))
  have hk7 : s1 (187) = σ (187) := (hs1 (187) (by omega))
  have hg8 : ∀ a, a ≠ 5 → a ≠ 7 → a ≠ 10 → ra_g s1 179 a = ra_g σ 179 a := fun a h5 h7 h10 => ((fun a h7 h10 => hp2o a h7) a h7 h10).trans ((fun _ _ _ _ => rfl) a h5 h7 h10)
  have ho9 : ∀ a, a ≠ 7 → a ≠ 10 → ra_g s1 179 a = ra_g σ 179 a := fun a h7 h10 => ((fun a h7 h10 => hp2o a h7) a h7 h10).trans ((fun _ _ _ => rfl) a h7 h10)
  refine ra_load rfl rfl rfl rfl ?_
  refine ra_load rfl rfl rfl rfl ?_
  refine ra_load rfl rfl rfl rfl ?_
  refine ra_load rfl rfl rfl rfl ?_
  refine ra_cQPp (s5_296 hx1 hx2 hx0) rfl (ct_296 rfl lk_8_363 (Or.inl rfl) (Nat.le_of_ble_eq_true rfl)) (fun z11 hz11 hz11p => ?_)
  have hz11o := hz11p.1
  have hz11q := hz11p.2
  clear hz11p
  refine ra_ifeq rfl rfl (ra_in01 hz11) (fun h12 => ?_) (fun h12 => ?_)
  · refine ra_iconst rfl ?_
    refine ra_goto rfl rfl ?_
    refine ra_iconst rfl ?_
    refine ra_cT (s5_194 (Or.inr rfl) (by first | omega | (unfold ra_in at *; omega))) rfl (ct_194 rfl lk_8_303 (Or.inl rfl) sh_179 (Nat.le_of_ble_eq_true rfl)) (fun s13 hs13 => ?_)
    obtain ⟨hf14, he15, he16⟩ := hs13
    have hF17 := Fr_tr (lo := 179) (hi := 191) hF3 hf14 (by omega)
    have hk18 : s13 (180) = σ (180) := (hf14 (180) (by omega)).trans hk4
    have hk19 : s13 (183) = σ (183) := (hf14 (183) (by omega)).trans hk5
    have hk20 : s13 (184) = σ (184) := (hf14 (184) (by omega)).trans hk6
    have hk21 : s13 (187) = σ (187) := (hf14 (187) (by omega)).trans hk7
    have hg22 : ∀ a, a ≠ 5 → a ≠ 7 → a ≠ 10 → ra_g s13 179 a = ra_g σ 179 a := fun a h5 h7 h10 => ((fun a h7 h10 => he15 a h7) a h7 h10).trans (hg8 a h5 h7 h10)
    have ho23 : ∀ a, a ≠ 7 → a ≠ 10 → ra_g s13 179 a = ra_g σ 179 a := fun a h7 h10 => ((fun a h7 h10 => he15 a h7) a h7 h10).trans (ho9 a h7 h10)
    refine ra_ifeq rfl rfl (by first | omega | (unfold ra_in at *; omega)) (fun h24 => ?_) (fun h24 => ?_)
    · exact absurd h24 (by decide)
    · refine ra_iconst rfl ?_
      exact ra_ireturn rfl rfl ⟨⟨_, (by first | omega | (unfold ra_in at *; omega)), (x5roF (k := 1) (by first | exact (x5cif_y (hz11q (by omega))) | exact ((x5cif_n (fun q => q (show x5TLD x1 x2 x0 from by have q9 := hz11o (by omega); unfold x5TLD; omega))).trans (x5cif_y (by omega)))) (by decide) (he16.1 rfl) hk18 (ho23 5 (by decide) (by decide)) hk20), rfl⟩, ⟨hF17, hk19, hk21, hg22, (WF_k hk18 hw), (PW_k hpw (ho23 5 (by decide) (by decide)) hk20)⟩⟩
  · refine ra_load rfl rfl rfl rfl ?_
    refine ra_i2l rfl hx3 ?_
    refine ra_lconst0 rfl ?_
    refine ra_ldc2 (z := 2) rfl lk_8_344 (by decide) ?_
    refine ra_cTp (sp_193 hx3 (by first | omega | (unfold ra_in at *; omega)) (by first | omega | (unfold ra_in at *; omega))) rfl (ct_193 rfl lk_8_63 (Or.inl rfl) (Nat.le_of_ble_eq_true rfl)) ?_
    refine ra_ifneB rfl rfl (fun h26 => ?_) (fun h26 => ?_)
    · refine ra_iconst rfl ?_
      refine ra_iconst rfl ?_
      refine ra_cT (s5_194 (Or.inl rfl) (by first | omega | (unfold ra_in at *; omega))) rfl (ct_194 rfl lk_8_303 (Or.inl rfl) sh_179 (Nat.le_of_ble_eq_true rfl)) (fun s27 hs27 => ?_)
      obtain ⟨hf28, he29, he30⟩ := hs27
      have hF31 := Fr_tr (lo := 179) (hi := 191) hF3 hf28 (by omega)
      have hk32 : s27 (180) = σ (180) := (hf28 (180) (by omega)).trans hk4
      have hk33 : s27 (183) = σ (183) := (hf28 (183) (by omega)).trans hk5
      have hk34 : s27 (184) = σ (184) := (hf28 (184) (by omega)).trans hk6
      have hk35 : s27 (187) = σ (187) := (hf28 (187) (by omega)).trans hk7
      have hg36 : ∀ a, a ≠ 5 → a ≠ 7 → a ≠ 10 → ra_g s27 179 a = ra_g σ 179 a := fun a h5 h7 h10 => ((fun a h7 h10 => he29 a h7) a h7 h10).trans (hg8 a h5 h7 h10)
      have ho37 : ∀ a, a ≠ 7 → a ≠ 10 → ra_g s27 179 a = ra_g σ 179 a := fun a h7 h10 => ((fun a h7 h10 => he29 a h7) a h7 h10).trans (ho9 a h7 h10)
      refine ra_ifeq rfl rfl (by first | omega | (unfold ra_in at *; omega)) (fun h38 => ?_) (fun h38 => ?_)
      · refine ra_load rfl rfl rfl rfl ?_
        refine ra_load rfl rfl rfl rfl ?_
        refine ra_load rfl rfl rfl rfl ?_
        refine ra_cIP (s5_222 hx0 hx3 (WF_k hk32 hw)) rfl (ct_222 rfl lk_8_346 (Or.inl rfl) sh_179 (Nat.le_of_ble_eq_true rfl)) (fun z40 s39 hz40 hz40p hs39 => ?_)
        have hz40o := hz40p.1
        have hz40q := hz40p.2
        clear hz40p
        obtain ⟨hf41, hc42, hc43, hc44, hc45, hc46, he47⟩ := hs39
        have hF48 := Fr_tr (lo := 179) (hi := 191) hF31 hf41 (by omega)
        have hk49 : s39 (180) = σ (180) := hc42.trans hk32
        have hk50 : s39 (183) = σ (183) := hc45.trans hk33
        have hk51 : s39 (184) = σ (184) := hc46.trans hk34
        have hk52 : s39 (187) = σ (187) := (hf41 (187) (by omega)).trans hk35
        have hg53 : ∀ a, a ≠ 5 → a ≠ 7 → a ≠ 10 → ra_g s39 179 a = ra_g σ 179 a := fun a h5 h7 h10 => ((fun a h7 h10 => he47 a h10) a h7 h10).trans (hg36 a h5 h7 h10)
        have ho54 : ∀ a, a ≠ 7 → a ≠ 10 → ra_g s39 179 a = ra_g σ 179 a := fun a h7 h10 => ((fun a h7 h10 => he47 a h10) a h7 h10).trans (ho37 a h7 h10)
        refine ra_store (L' := [_, _, _, _, _, _]) rfl rfl rfl (Nat.le_of_ble_eq_true rfl) rfl ?_
        refine ra_load rfl rfl rfl rfl ?_
        refine ra_load rfl rfl rfl rfl ?_
        refine ra_cIPp (s6_203 (WF_k hk49 hw)) rfl (ct_203 rfl lk_8_298 (Or.inl rfl) sh_179 (Nat.le_of_ble_eq_true rfl)) (fun z56 hz56 hz56p => ?_)
        have hz56o := hz56p.1
        have hz56q := hz56p.2
        clear hz56p
        refine ra_bipush rfl (by decide) ?_
        refine ra_iceq rfl rfl hz56 (by first | omega | (unfold ra_in at *; omega)) (fun h57 => ?_) (fun h57 => ?_)
        · refine ra_iconst rfl ?_
          refine ra_goto rfl rfl ?_
          refine ra_iconst rfl ?_
          refine ra_cT (s5_194 (Or.inr rfl) (by first | omega | (unfold ra_in at *; omega))) rfl (ct_194 rfl lk_8_303 (Or.inl rfl) sh_179 (Nat.le_of_ble_eq_true rfl)) (fun s58 hs58 => ?_)
          obtain ⟨hf59, he60, he61⟩ := hs58
          have hF62 := Fr_tr (lo := 179) (hi := 191) hF48 hf59 (by omega)
          have hk63 : s58 (180) = σ (180) := (hf59 (180) (by omega)).trans hk49
          have hk64 : s58 (183) = σ (183) := (hf59 (183) (by omega)).trans hk50
          have hk65 : s58 (184) = σ (184) := (hf59 (184) (by omega)).trans hk51
          have hk66 : s58 (187) = σ (187) := (hf59 (187) (by omega)).trans hk52
          have hg67 : ∀ a, a ≠ 5 → a ≠ 7 → a ≠ 10 → ra_g s58 179 a = ra_g σ 179 a := fun a h5 h7 h10 => ((fun a h7 h10 => he60 a h7) a h7 h10).trans (hg53 a h5 h7 h10)
          have ho68 : ∀ a, a ≠ 7 → a ≠ 10 → ra_g s58 179 a = ra_g σ 179 a := fun a h7 h10 => ((fun a h7 h10 => he60 a h7) a h7 h10).trans (ho54 a h7 h10)
          refine ra_ifeq rfl rfl (by first | omega | (unfold ra_in at *; omega)) (fun h69 => ?_) (fun h69 => ?_)
          · exact absurd h69 (by decide)
          · refine ra_iconst rfl ?_
            exact ra_ireturn rfl rfl ⟨⟨_, (by first | omega | (unfold ra_in at *; omega)), (x5roF (k := 2) (by first | exact ((x5cif_n (fun q => q (show x5TLD x1 x2 x0 from by clear hz56o; have q9 := hz11o (by omega); unfold x5TLD; omega))).trans ((x5cif_n (fun q => q (by omega))).trans (x5cif_y (show x5FUL σ from by clear hz56o; have q9 := hz56q; rw [ct_k hk49] at q9; unfold x5FUL; omega)))) | exact ((x5cif_n (fun q => q (show x5TLD x1 x2 x0 from by clear hz56o; have q9 := hz11o (by omega); unfold x5TLD; omega))).trans ((x5cif_n (fun q => q (by omega))).trans ((x5cif_n (show ¬ x5FUL σ from by clear hz56o; have q9 := hz56q; rw [ct_k hk49] at q9; unfold x5FUL; omega)).trans (x5cif_y (by clear hz56o; have q9 := hz40q; rw [x5fit_k hk32] at q9; omega)))))) (by decide) (he61.1 rfl) hk63 (ho68 5 (by decide) (by decide)) hk65), rfl⟩, ⟨hF62, hk64, hk66, hg67, (WF_k hk63 hw), (PW_k hpw (ho68 5 (by decide) (by decide)) hk65)⟩⟩
        · refine ra_load rfl rfl rfl rfl ?_
          refine ra_iconst rfl ?_
          refine ra_icne rfl rfl hz40 (by first | omega | (unfold ra_in at *; omega)) (fun h70 => ?_) (fun h70 => ?_)
          · refine ra_iconst rfl ?_
            refine ra_iconst rfl ?_
            refine ra_cT (s5_194 (Or.inl rfl) (by first | omega | (unfold ra_in at *; omega))) rfl (ct_194 rfl lk_8_303 (Or.inl rfl) sh_179 (Nat.le_of_ble_eq_true rfl)) (fun s71 hs71 => ?_)
            obtain ⟨hf72, he73, he74⟩ := hs71
            have hF75 := Fr_tr (lo := 179) (hi := 191) hF48 hf72 (by omega)
            have hk76 : s71 (180) = σ (180) := (hf72 (180) (by omega)).trans hk49
            have hk77 : s71 (183) = σ (183) := (hf72 (183) (by omega)).trans hk50
            have hk78 : s71 (184) = σ (184) := (hf72 (184) (by omega)).trans hk51
            have hk79 : s71 (187) = σ (187) := (hf72 (187) (by omega)).trans hk52
            have hg80 : ∀ a, a ≠ 5 → a ≠ 7 → a ≠ 10 → ra_g s71 179 a = ra_g σ 179 a := fun a h5 h7 h10 => ((fun a h7 h10 => he73 a h7) a h7 h10).trans (hg53 a h5 h7 h10)
            have ho81 : ∀ a, a ≠ 7 → a ≠ 10 → ra_g s71 179 a = ra_g σ 179 a := fun a h7 h10 => ((fun a h7 h10 => he73 a h7) a h7 h10).trans (ho54 a h7 h10)
            refine ra_ifeq rfl rfl (by first | omega | (unfold ra_in at *; omega)) (fun h82 => ?_) (fun h82 => ?_)
            · refine ra_load rfl rfl rfl rfl ?_
              have hu := wn_k hk32 (hz40o.resolve_left (by omega))
              have hx := exn_k hk49 (hz56o.2.2 (by omega))
              clear hz56o
              have hu1 := hu.1
              unfold US at hu1
              have ht := hz11o (by omega)
              have hb0 : s71 180 = σ 180 := hk76
              have hb4 : s71 184 = σ 184 := hk78
              have hb5 : ra_g s71 179 5 = ra_g σ 179 5 := ho81 5 (by decide) (by decide)
              refine ra_cV (s5_197 (WF_k hk76 hw) (PW_k hpw (ho81 5 (by decide) (by decide)) hk78)) rfl (ct_197 rfl lk_8_366 (Or.inl rfl) sh_179 (Nat.le_of_ble_eq_true rfl)) (fun s83 hs83 => ?_)
              obtain ⟨hf84, hc85, hc86, hc87, hc88, he89, he90, he91⟩ := hs83
              have hF92 := Fr_tr (lo := 179) (hi := 191) hF75 hf84 (by omega)
              have hk93 : s83 (180) = σ (180) := hc85.trans hk76
              have hk94 : s83 (183) = σ (183) := hc88.trans hk77
              have hk95 : s83 (187) = σ (187) := (hf84 (187) (by omega)).trans hk79
              have hg96 : ∀ a, a ≠ 5 → a ≠ 7 → a ≠ 10 → ra_g s83 179 a = ra_g σ 179 a := fun a h5 h7 h10 => ((fun a h5 h7 h10 => he89 a h5) a h5 h7 h10).trans (hg80 a h5 h7 h10)
              refine ra_load rfl rfl rfl rfl ?_
              refine ra_load rfl rfl rfl rfl ?_
              refine ra_load rfl rfl rfl rfl ?_
              refine ra_load rfl rfl rfl rfl ?_
              refine ra_load rfl rfl rfl rfl ?_
              refine ra_cIPs (s5_210 hz40 hx0 hx1 hx2 (exm_k hk93 hx) (by omega)) rfl (ct_210 rfl lk_8_250 (Or.inl rfl) sh_179 (Nat.le_of_ble_eq_true rfl)) (fun z98 s97 hz98 hz98p hs97 => ?_)
              have hz98o := hz98p.1
              have hz98q := hz98p.2
              clear hz98p
              have hF99 := Fr_tr (lo := 179) (hi := 191) hF92 hs97 (by omega)
              have hk100 : s97 (183) = σ (183) := (hs97 (183) (by omega)).trans hk94
              have hk101 : s97 (187) = σ (187) := (hs97 (187) (by omega)).trans hk95
              have hg102 : ∀ a, a ≠ 5 → a ≠ 7 → a ≠ 10 → ra_g s97 179 a = ra_g σ 179 a := fun a h5 h7 h10 => (ra_gk (hs97 179 (by omega))).trans (hg96 a h5 h7 h10)
              exact ra_ireturn rfl rfl ⟨⟨_, hz98, (x5roY ((x5cif_n (fun q => q (show x5TLD x1 x2 x0 from by have q9 := hz11o (by omega); unfold x5TLD; omega))).trans ((x5cif_n (fun q => q (by omega))).trans ((x5cif_n (show ¬ x5FUL σ from by have q9 := hz56q; rw [ct_k hk49] at q9; unfold x5FUL; omega)).trans (x5cif_n (by have q9 := hz40q; rw [x5fit_k hk32] at q9; omega))))) ((ra_gk (hs97 (179) (by omega))).trans ((he89 7 (by decide)).trans ((he74.2 rfl).trans ((he47 7 (by decide)).trans ((he30.2 rfl).trans hp2))))) (hz98q.1.trans (x5nfr_k hk93)) (by have q9 := hz98q.2; have q8 := hz40q; rw [x5fit_k hk32] at q8; rw [x5nfr_k hk93, x5mk_k hk93, q8] at q9; exact q9) (x5psh_k (x5psh_s hb5 hb4 hb0 he91) (ra_gk (hs97 179 (by omega))) (hs97 184 (by omega)))), rfl⟩, ⟨hF99, hk100, hk101, hg102, (WF_new (WF_k hk93 hw) hz98o (wn_k hk93.symm hu).1 (wn_k hk93.symm hu).2.1 (wn_k hk93.symm hu).2.2 ⟨by omega, by omega⟩), (PW_k he90 (ra_gk (hs97 179 (by omega))) (hs97 184 (by omega)))⟩⟩
            · exact absurd h82 (by decide)
          · refine ra_iconst rfl ?_
            refine ra_goto rfl rfl ?_
            refine ra_iconst rfl ?_
            refine ra_cT (s5_194 (Or.inr rfl) (by first | omega | (unfold ra_in at *; omega))) rfl (ct_194 rfl lk_8_303 (Or.inl rfl) sh_179 (Nat.le_of_ble_eq_true rfl)) (fun s103 hs103 => ?_)
            obtain ⟨hf104, he105, he106⟩ := hs103
            have hF107 := Fr_tr (lo := 179) (hi := 191) hF48 hf104 (by omega)
            have hk108 : s103 (180) = σ (180) := (hf104 (180) (by omega)).trans hk49
            have hk109 : s103 (183) = σ (183) := (hf104 (183) (by omega)).trans hk50
            have hk110 : s103 (184) = σ (184) := (hf104 (184) (by omega)).trans hk51
            have hk111 : s103 (187) = σ (187) := (hf104 (187) (by omega)).trans hk52
            have hg112 : ∀ a, a ≠ 5 → a ≠ 7 → a ≠ 10 → ra_g s103 179 a = ra_g σ 179 a := fun a h5 h7 h10 => ((fun a h7 h10 => he105 a h7) a h7 h10).trans (hg53 a h5 h7 h10)
            have ho113 : ∀ a, a ≠ 7 → a ≠ 10 → ra_g s103 179 a = ra_g σ 179 a := fun a h7 h10 => ((fun a h7 h10 => he105 a h7) a h7 h10).trans (ho54 a h7 h10)
            refine ra_ifeq rfl rfl (by first | omega | (unfold ra_in at *; omega)) (fun h114 => ?_) (fun h114 => ?_)
            · exact absurd h114 (by decide)
            · refine ra_iconst rfl ?_
              exact ra_ireturn rfl rfl ⟨⟨_, (by first | omega | (unfold ra_in at *; omega)), (x5roF (k := 2) (by first | exact ((x5cif_n (fun q => q (show x5TLD x1 x2 x0 from by clear hz56o; have q9 := hz11o (by omega); unfold x5TLD; omega))).trans ((x5cif_n (fun q => q (by omega))).trans (x5cif_y (show x5FUL σ from by clear hz56o; have q9 := hz56q; rw [ct_k hk49] at q9; unfold x5FUL; omega)))) | exact ((x5cif_n (fun q => q (show x5TLD x1 x2 x0 from by clear hz56o; have q9 := hz11o (by omega); unfold x5TLD; omega))).trans ((x5cif_n (fun q => q (by omega))).trans ((x5cif_n (show ¬ x5FUL σ from by clear hz56o; have q9 := hz56q; rw [ct_k hk49] at q9; unfold x5FUL; omega)).trans (x5cif_y (by clear hz56o; have q9 := hz40q; rw [x5fit_k hk32] at q9; omega)))))) (by decide) (he106.1 rfl) hk108 (ho113 5 (by decide) (by decide)) hk110), rfl⟩, ⟨hF107, hk109, hk111, hg112, (WF_k hk108 hw), (PW_k hpw (ho113 5 (by decide) (by decide)) hk110)⟩⟩
      · exact absurd h38 (by decide)
    · refine ra_iconst rfl ?_
      refine ra_goto rfl rfl ?_
      refine ra_iconst rfl ?_
      refine ra_cT (s5_194 (Or.inr rfl) (by first | omega | (unfold ra_in at *; omega))) rfl (ct_194 rfl lk_8_303 (Or.inl rfl) sh_179 (Nat.le_of_ble_eq_true rfl)) (fun s115 hs115 => ?_)
      obtain ⟨hf116, he117, he118⟩ := hs115
      have hF119 := Fr_tr (lo := 179) (hi := 191) hF3 hf116 (by omega)
      have hk120 : s115 (180) = σ (180) := (hf116 (180) (by omega)).trans hk4
      have hk121 : s115 (183) = σ (183) := (hf116 (183) (by omega)).trans hk5
      have hk122 : s115 (184) = σ (184) := (hf116 (184) (by omega)).trans hk6
      have hk123 : s115 (187) = σ (187) := (hf116 (187) (by omega)).trans hk7
      have hg124 : ∀ a, a ≠ 5 → a ≠ 7 → a ≠ 10 → ra_g s115 179 a = ra_g σ 179 a := fun a h5 h7 h10 => ((fun a h7 h10 => he117 a h7) a h7 h10).trans (hg8 a h5 h7 h10)
      have ho125 : ∀ a, a ≠ 7 → a ≠ 10 → ra_g s115 179 a = ra_g σ 179 a := fun a h7 h10 => ((fun a h7 h10 => he117 a h7) a h7 h10).trans (ho9 a h7 h10)
      refine ra_ifeq rfl rfl (by first | omega | (unfold ra_in at *; omega)) (fun h126 => ?_) (fun h126 => ?_)
      · exact absurd h126 (by decide)
      · refine ra_iconst rfl ?_
        exact ra_ireturn rfl rfl ⟨⟨_, (by first | omega | (unfold ra_in at *; omega)), (x5roF (k := 1) (by first | exact (x5cif_y (hz11q (by omega))) | exact ((x5cif_n (fun q => q (show x5TLD x1 x2 x0 from by have q9 := hz11o (by omega); unfold x5TLD; omega))).trans (x5cif_y (by omega)))) (by decide) (he118.1 rfl) hk120 (ho125 5 (by decide) (by decide)) hk122), rfl⟩, ⟨hF119, hk121, hk123, hg124, (WF_k hk120 hw), (PW_k hpw (ho125 5 (by decide) (by decide)) hk122)⟩⟩
end
